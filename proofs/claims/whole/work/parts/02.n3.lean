theorem dX8_init_0 : decode cX8_init 0 = .ok (.aload_n 0, 1) := by decide +kernel
theorem dX8_init_1 : decode cX8_init 1 = .ok (.invokespecial 1, 3) := by decide +kernel
theorem dX8_init_4 : decode cX8_init 4 = .ok (.aload_n 0, 1) := by decide +kernel
theorem dX8_init_5 : decode cX8_init 5 = .ok (.bipush 30, 2) := by decide +kernel
theorem dX8_init_7 : decode cX8_init 7 = .ok (.newarray .int, 2) := by decide +kernel
theorem dX8_init_9 : decode cX8_init 9 = .ok (.putfield 7, 3) := by decide +kernel
theorem dX8_init_12 : decode cX8_init 12 = .ok (.aload_n 0, 1) := by decide +kernel
theorem dX8_init_13 : decode cX8_init 13 = .ok (.bipush 30, 2) := by decide +kernel
theorem dX8_init_15 : decode cX8_init 15 = .ok (.newarray .int, 2) := by decide +kernel
theorem dX8_init_17 : decode cX8_init 17 = .ok (.putfield 13, 3) := by decide +kernel
theorem dX8_init_20 : decode cX8_init 20 = .ok (.aload_n 0, 1) := by decide +kernel
theorem dX8_init_21 : decode cX8_init 21 = .ok (.bipush 30, 2) := by decide +kernel
theorem dX8_init_23 : decode cX8_init 23 = .ok (.newarray .int, 2) := by decide +kernel
theorem dX8_init_25 : decode cX8_init 25 = .ok (.putfield 16, 3) := by decide +kernel
theorem dX8_init_28 : decode cX8_init 28 = .ok (.aload_n 0, 1) := by decide +kernel
theorem dX8_init_29 : decode cX8_init 29 = .ok (.bipush 30, 2) := by decide +kernel
theorem dX8_init_31 : decode cX8_init 31 = .ok (.newarray .int, 2) := by decide +kernel
theorem dX8_init_33 : decode cX8_init 33 = .ok (.putfield 19, 3) := by decide +kernel
theorem dX8_init_36 : decode cX8_init 36 = .ok (.aload_n 0, 1) := by decide +kernel
theorem dX8_init_37 : decode cX8_init 37 = .ok (.bipush 30, 2) := by decide +kernel
theorem dX8_init_39 : decode cX8_init 39 = .ok (.newarray .int, 2) := by decide +kernel
theorem dX8_init_41 : decode cX8_init 41 = .ok (.putfield 22, 3) := by decide +kernel
theorem dX8_init_44 : decode cX8_init 44 = .ok (.aload_n 0, 1) := by decide +kernel
theorem dX8_init_45 : decode cX8_init 45 = .ok (.bipush 40, 2) := by decide +kernel
theorem dX8_init_47 : decode cX8_init 47 = .ok (.newarray .int, 2) := by decide +kernel
theorem dX8_init_49 : decode cX8_init 49 = .ok (.putfield 25, 3) := by decide +kernel
theorem dX8_init_52 : decode cX8_init 52 = .ok (.aload_n 0, 1) := by decide +kernel
theorem dX8_init_53 : decode cX8_init 53 = .ok (.bipush 40, 2) := by decide +kernel
theorem dX8_init_55 : decode cX8_init 55 = .ok (.newarray .int, 2) := by decide +kernel
theorem dX8_init_57 : decode cX8_init 57 = .ok (.putfield 28, 3) := by decide +kernel
theorem dX8_init_60 : decode cX8_init 60 = .ok (.aload_n 0, 1) := by decide +kernel
theorem dX8_init_61 : decode cX8_init 61 = .ok (.bipush 40, 2) := by decide +kernel
theorem dX8_init_63 : decode cX8_init 63 = .ok (.newarray .int, 2) := by decide +kernel
theorem dX8_init_65 : decode cX8_init 65 = .ok (.putfield 31, 3) := by decide +kernel
theorem dX8_init_68 : decode cX8_init 68 = .ok (.aload_n 0, 1) := by decide +kernel
theorem dX8_init_69 : decode cX8_init 69 = .ok (.bipush 40, 2) := by decide +kernel
theorem dX8_init_71 : decode cX8_init 71 = .ok (.newarray .int, 2) := by decide +kernel
theorem dX8_init_73 : decode cX8_init 73 = .ok (.putfield 34, 3) := by decide +kernel
theorem dX8_init_76 : decode cX8_init 76 = .ok (.aload_n 0, 1) := by decide +kernel
theorem dX8_init_77 : decode cX8_init 77 = .ok (.bipush 40, 2) := by decide +kernel
theorem dX8_init_79 : decode cX8_init 79 = .ok (.newarray .int, 2) := by decide +kernel
theorem dX8_init_81 : decode cX8_init 81 = .ok (.putfield 37, 3) := by decide +kernel
theorem dX8_init_84 : decode cX8_init 84 = .ok (.aload_n 0, 1) := by decide +kernel
theorem dX8_init_85 : decode cX8_init 85 = .ok (.bipush 40, 2) := by decide +kernel
theorem dX8_init_87 : decode cX8_init 87 = .ok (.newarray .int, 2) := by decide +kernel
theorem dX8_init_89 : decode cX8_init 89 = .ok (.putfield 40, 3) := by decide +kernel
theorem dX8_init_92 : decode cX8_init 92 = .ok (.aload_n 0, 1) := by decide +kernel
theorem dX8_init_93 : decode cX8_init 93 = .ok (.bipush 40, 2) := by decide +kernel
theorem dX8_init_95 : decode cX8_init 95 = .ok (.newarray .int, 2) := by decide +kernel
theorem dX8_init_97 : decode cX8_init 97 = .ok (.putfield 43, 3) := by decide +kernel
theorem dX8_init_100 : decode cX8_init 100 = .ok (.aload_n 0, 1) := by decide +kernel
theorem dX8_init_101 : decode cX8_init 101 = .ok (.bipush 40, 2) := by decide +kernel
theorem dX8_init_103 : decode cX8_init 103 = .ok (.newarray .boolean, 2) := by decide +kernel
theorem dX8_init_105 : decode cX8_init 105 = .ok (.putfield 46, 3) := by decide +kernel
theorem dX8_init_108 : decode cX8_init 108 = .ok (.aload_n 0, 1) := by decide +kernel
theorem dX8_init_109 : decode cX8_init 109 = .ok (.bipush 40, 2) := by decide +kernel
theorem dX8_init_111 : decode cX8_init 111 = .ok (.newarray .boolean, 2) := by decide +kernel
theorem dX8_init_113 : decode cX8_init 113 = .ok (.putfield 50, 3) := by decide +kernel
theorem dX8_init_116 : decode cX8_init 116 = .ok (.aload_n 0, 1) := by decide +kernel
theorem dX8_init_117 : decode cX8_init 117 = .ok (.bipush 40, 2) := by decide +kernel
theorem dX8_init_119 : decode cX8_init 119 = .ok (.newarray .int, 2) := by decide +kernel
theorem dX8_init_121 : decode cX8_init 121 = .ok (.putfield 53, 3) := by decide +kernel
theorem dX8_init_124 : decode cX8_init 124 = .ok (.aload_n 0, 1) := by decide +kernel
theorem dX8_init_125 : decode cX8_init 125 = .ok (.bipush 40, 2) := by decide +kernel
theorem dX8_init_127 : decode cX8_init 127 = .ok (.newarray .int, 2) := by decide +kernel
theorem dX8_init_129 : decode cX8_init 129 = .ok (.putfield 56, 3) := by decide +kernel
theorem dX8_init_132 : decode cX8_init 132 = .ok (.aload_n 0, 1) := by decide +kernel
theorem dX8_init_133 : decode cX8_init 133 = .ok (.bipush 40, 2) := by decide +kernel
theorem dX8_init_135 : decode cX8_init 135 = .ok (.newarray .int, 2) := by decide +kernel
theorem dX8_init_137 : decode cX8_init 137 = .ok (.putfield 59, 3) := by decide +kernel
theorem dX8_init_140 : decode cX8_init 140 = .ok (.aload_n 0, 1) := by decide +kernel
theorem dX8_init_141 : decode cX8_init 141 = .ok (.bipush 40, 2) := by decide +kernel
theorem dX8_init_143 : decode cX8_init 143 = .ok (.newarray .int, 2) := by decide +kernel
theorem dX8_init_145 : decode cX8_init 145 = .ok (.putfield 62, 3) := by decide +kernel
theorem dX8_init_148 : decode cX8_init 148 = .ok (.aload_n 0, 1) := by decide +kernel
theorem dX8_init_149 : decode cX8_init 149 = .ok (.bipush 30, 2) := by decide +kernel
theorem dX8_init_151 : decode cX8_init 151 = .ok (.newarray .int, 2) := by decide +kernel
theorem dX8_init_153 : decode cX8_init 153 = .ok (.putfield 65, 3) := by decide +kernel
theorem dX8_init_156 : decode cX8_init 156 = .ok (.aload_n 0, 1) := by decide +kernel
theorem dX8_init_157 : decode cX8_init 157 = .ok (.bipush 30, 2) := by decide +kernel
theorem dX8_init_159 : decode cX8_init 159 = .ok (.newarray .int, 2) := by decide +kernel
theorem dX8_init_161 : decode cX8_init 161 = .ok (.putfield 68, 3) := by decide +kernel
theorem dX8_init_164 : decode cX8_init 164 = .ok (.aload_n 0, 1) := by decide +kernel
theorem dX8_init_165 : decode cX8_init 165 = .ok (.bipush 40, 2) := by decide +kernel
theorem dX8_init_167 : decode cX8_init 167 = .ok (.newarray .boolean, 2) := by decide +kernel
theorem dX8_init_169 : decode cX8_init 169 = .ok (.putfield 71, 3) := by decide +kernel
theorem dX8_init_172 : decode cX8_init 172 = .ok (.aload_n 0, 1) := by decide +kernel
theorem dX8_init_173 : decode cX8_init 173 = .ok (.sipush 900, 3) := by decide +kernel
theorem dX8_init_176 : decode cX8_init 176 = .ok (.newarray .int, 2) := by decide +kernel
theorem dX8_init_178 : decode cX8_init 178 = .ok (.putfield 74, 3) := by decide +kernel
theorem dX8_init_181 : decode cX8_init 181 = .ok (.aload_n 0, 1) := by decide +kernel
theorem dX8_init_182 : decode cX8_init 182 = .ok (.sipush 300, 3) := by decide +kernel
theorem dX8_init_185 : decode cX8_init 185 = .ok (.newarray .int, 2) := by decide +kernel
theorem dX8_init_187 : decode cX8_init 187 = .ok (.putfield 77, 3) := by decide +kernel
theorem dX8_init_190 : decode cX8_init 190 = .ok (.aload_n 0, 1) := by decide +kernel
theorem dX8_init_191 : decode cX8_init 191 = .ok (.bipush 40, 2) := by decide +kernel
theorem dX8_init_193 : decode cX8_init 193 = .ok (.newarray .int, 2) := by decide +kernel
theorem dX8_init_195 : decode cX8_init 195 = .ok (.putfield 80, 3) := by decide +kernel
theorem dX8_init_198 : decode cX8_init 198 = .ok (.aload_n 0, 1) := by decide +kernel
theorem dX8_init_199 : decode cX8_init 199 = .ok (.bipush 40, 2) := by decide +kernel
theorem dX8_init_201 : decode cX8_init 201 = .ok (.newarray .int, 2) := by decide +kernel
theorem dX8_init_203 : decode cX8_init 203 = .ok (.putfield 83, 3) := by decide +kernel
theorem dX8_init_206 : decode cX8_init 206 = .ok (.aload_n 0, 1) := by decide +kernel
theorem dX8_init_207 : decode cX8_init 207 = .ok (.bipush 40, 2) := by decide +kernel
theorem dX8_init_209 : decode cX8_init 209 = .ok (.newarray .int, 2) := by decide +kernel
theorem dX8_init_211 : decode cX8_init 211 = .ok (.putfield 86, 3) := by decide +kernel
theorem dX8_init_214 : decode cX8_init 214 = .ok (.aload_n 0, 1) := by decide +kernel
theorem dX8_init_215 : decode cX8_init 215 = .ok (.bipush 40, 2) := by decide +kernel
theorem dX8_init_217 : decode cX8_init 217 = .ok (.newarray .int, 2) := by decide +kernel
theorem dX8_init_219 : decode cX8_init 219 = .ok (.putfield 89, 3) := by decide +kernel
theorem dX8_init_222 : decode cX8_init 222 = .ok (.aload_n 0, 1) := by decide +kernel
theorem dX8_init_223 : decode cX8_init 223 = .ok (.bipush 16, 2) := by decide +kernel
theorem dX8_init_225 : decode cX8_init 225 = .ok (.newarray .int, 2) := by decide +kernel
theorem dX8_init_227 : decode cX8_init 227 = .ok (.putfield 92, 3) := by decide +kernel
theorem dX8_init_230 : decode cX8_init 230 = .ok (.return_, 1) := by decide +kernel
theorem dX8_in_0 : decode cX8_in 0 = .ok (.lload_n 0, 1) := by decide +kernel
theorem dX8_in_1 : decode cX8_in 1 = .ok (.lload_n 2, 1) := by decide +kernel
theorem dX8_in_2 : decode cX8_in 2 = .ok (.lcmp, 1) := by decide +kernel
theorem dX8_in_3 : decode cX8_in 3 = .ok (.ifCond .lt 14, 3) := by decide +kernel
theorem dX8_in_6 : decode cX8_in 6 = .ok (.lload_n 0, 1) := by decide +kernel
theorem dX8_in_7 : decode cX8_in 7 = .ok (.lload 4, 2) := by decide +kernel
theorem dX8_in_9 : decode cX8_in 9 = .ok (.lcmp, 1) := by decide +kernel
theorem dX8_in_10 : decode cX8_in 10 = .ok (.ifCond .gt 7, 3) := by decide +kernel
theorem dX8_in_13 : decode cX8_in 13 = .ok (.iconst 1, 1) := by decide +kernel
theorem dX8_in_14 : decode cX8_in 14 = .ok (.goto 4, 3) := by decide +kernel
theorem dX8_in_17 : decode cX8_in 17 = .ok (.iconst 0, 1) := by decide +kernel
theorem dX8_in_18 : decode cX8_in 18 = .ok (.ireturn, 1) := by decide +kernel
set_option maxRecDepth 20000 in
theorem ggX8_isPipe_X8_in : GoodIn wsX8_isPipe wsX8_in := goodIn_r _ [5] (by decide +kernel) (by decide +kernel)
set_option maxRecDepth 20000 in
theorem gX8_isPipe_X8_in : GoodIn wsX8_isPipe (va_wsS RX8 102 yX8_in wsX8_in) := goodIn_app (goodIn_of _ (by decide +kernel)) ggX8_isPipe_X8_in
theorem dX8_isPipe_0 : decode cX8_isPipe 0 = .ok (.iload_n 1, 1) := by decide +kernel
theorem dX8_isPipe_1 : decode cX8_isPipe 1 = .ok (.i2l, 1) := by decide +kernel
theorem dX8_isPipe_2 : decode cX8_isPipe 2 = .ok (.lconst 0, 1) := by decide +kernel
theorem dX8_isPipe_3 : decode cX8_isPipe 3 = .ok (.aload_n 0, 1) := by decide +kernel
theorem dX8_isPipe_4 : decode cX8_isPipe 4 = .ok (.getfield 99, 3) := by decide +kernel
theorem dX8_isPipe_7 : decode cX8_isPipe 7 = .ok (.iconst 1, 1) := by decide +kernel
theorem dX8_isPipe_8 : decode cX8_isPipe 8 = .ok (.isub, 1) := by decide +kernel
theorem dX8_isPipe_9 : decode cX8_isPipe 9 = .ok (.i2l, 1) := by decide +kernel
theorem dX8_isPipe_10 : decode cX8_isPipe 10 = .ok (.invokestatic 102, 3) := by decide +kernel
theorem dX8_isPipe_13 : decode cX8_isPipe 13 = .ok (.ireturn, 1) := by decide +kernel
set_option maxRecDepth 20000 in
theorem ggX8_pipe_X8_isPipe : GoodIn wsX8_pipe wsX8_isPipe := goodIn_r _ [16, 6, 17, 18, 15, 19, 20, 21, 22, 23, 24, 25, 26, 27, 28, 29, 30, 31, 32, 33, 34, 35, 36, 37, 38, 39, 40, 41, 42, 43, 44, 45, 46, 47, 48, 49, 50, 51, 52, 53, 54, 55, 56, 57, 58, 59, 60, 61, 62, 63, 64, 65, 66, 67] (by decide +kernel) (by decide +kernel)
set_option maxRecDepth 20000 in
theorem gX8_pipe_X8_isPipe : GoodIn wsX8_pipe (wsV RX8 107 RX8 yX8_isPipe wsX8_isPipe) := goodIn_app (goodIn_of _ (by decide +kernel)) ggX8_pipe_X8_isPipe
set_option maxRecDepth 20000 in
theorem ggX8_pipe_X8_in : GoodIn wsX8_pipe wsX8_in := goodIn_r _ [19] (by decide +kernel) (by decide +kernel)
set_option maxRecDepth 20000 in
theorem gX8_pipe_X8_in : GoodIn wsX8_pipe (va_wsS RX8 102 yX8_in wsX8_in) := goodIn_app (goodIn_of _ (by decide +kernel)) ggX8_pipe_X8_in
theorem dX8_pipe_0 : decode cX8_pipe 0 = .ok (.aload_n 0, 1) := by decide +kernel
theorem dX8_pipe_1 : decode cX8_pipe 1 = .ok (.iconst 0, 1) := by decide +kernel
theorem dX8_pipe_2 : decode cX8_pipe 2 = .ok (.putfield 95, 3) := by decide +kernel
theorem dX8_pipe_5 : decode cX8_pipe 5 = .ok (.iload_n 1, 1) := by decide +kernel
theorem dX8_pipe_6 : decode cX8_pipe 6 = .ok (.ldc 106, 2) := by decide +kernel
theorem dX8_pipe_8 : decode cX8_pipe 8 = .ok (.if_icmp .eq 11, 3) := by decide +kernel
theorem dX8_pipe_11 : decode cX8_pipe 11 = .ok (.aload_n 0, 1) := by decide +kernel
theorem dX8_pipe_12 : decode cX8_pipe 12 = .ok (.iload_n 1, 1) := by decide +kernel
theorem dX8_pipe_13 : decode cX8_pipe 13 = .ok (.invokevirtual 107, 3) := by decide +kernel
theorem dX8_pipe_16 : decode cX8_pipe 16 = .ok (.ifCond .eq 27, 3) := by decide +kernel
theorem dX8_pipe_19 : decode cX8_pipe 19 = .ok (.iload_n 2, 1) := by decide +kernel
theorem dX8_pipe_20 : decode cX8_pipe 20 = .ok (.i2l, 1) := by decide +kernel
theorem dX8_pipe_21 : decode cX8_pipe 21 = .ok (.lconst 0, 1) := by decide +kernel
theorem dX8_pipe_22 : decode cX8_pipe 22 = .ok (.ldc2_w 111, 3) := by decide +kernel
theorem dX8_pipe_25 : decode cX8_pipe 25 = .ok (.invokestatic 102, 3) := by decide +kernel
theorem dX8_pipe_28 : decode cX8_pipe 28 = .ok (.ifCond .eq 15, 3) := by decide +kernel
theorem dX8_pipe_31 : decode cX8_pipe 31 = .ok (.iload_n 3, 1) := by decide +kernel
theorem dX8_pipe_32 : decode cX8_pipe 32 = .ok (.i2l, 1) := by decide +kernel
theorem dX8_pipe_33 : decode cX8_pipe 33 = .ok (.lconst 0, 1) := by decide +kernel
theorem dX8_pipe_34 : decode cX8_pipe 34 = .ok (.ldc2_w 113, 3) := by decide +kernel
theorem dX8_pipe_37 : decode cX8_pipe 37 = .ok (.invokestatic 102, 3) := by decide +kernel
theorem dX8_pipe_40 : decode cX8_pipe 40 = .ok (.ifCond .ne 6, 3) := by decide +kernel
theorem dX8_pipe_43 : decode cX8_pipe 43 = .ok (.ldc 115, 2) := by decide +kernel
theorem dX8_pipe_45 : decode cX8_pipe 45 = .ok (.ireturn, 1) := by decide +kernel
theorem dX8_pipe_46 : decode cX8_pipe 46 = .ok (.aload_n 0, 1) := by decide +kernel
theorem dX8_pipe_47 : decode cX8_pipe 47 = .ok (.getfield 99, 3) := by decide +kernel
theorem dX8_pipe_50 : decode cX8_pipe 50 = .ok (.bipush 30, 2) := by decide +kernel
theorem dX8_pipe_52 : decode cX8_pipe 52 = .ok (.if_icmp .ne 6, 3) := by decide +kernel
theorem dX8_pipe_55 : decode cX8_pipe 55 = .ok (.ldc 116, 2) := by decide +kernel
theorem dX8_pipe_57 : decode cX8_pipe 57 = .ok (.ireturn, 1) := by decide +kernel
theorem dX8_pipe_58 : decode cX8_pipe 58 = .ok (.aload_n 0, 1) := by decide +kernel
theorem dX8_pipe_59 : decode cX8_pipe 59 = .ok (.getfield 7, 3) := by decide +kernel
theorem dX8_pipe_62 : decode cX8_pipe 62 = .ok (.aload_n 0, 1) := by decide +kernel
theorem dX8_pipe_63 : decode cX8_pipe 63 = .ok (.getfield 99, 3) := by decide +kernel
theorem dX8_pipe_66 : decode cX8_pipe 66 = .ok (.iload_n 1, 1) := by decide +kernel
theorem dX8_pipe_67 : decode cX8_pipe 67 = .ok (.iastore, 1) := by decide +kernel
theorem dX8_pipe_68 : decode cX8_pipe 68 = .ok (.aload_n 0, 1) := by decide +kernel
theorem dX8_pipe_69 : decode cX8_pipe 69 = .ok (.getfield 13, 3) := by decide +kernel
theorem dX8_pipe_72 : decode cX8_pipe 72 = .ok (.aload_n 0, 1) := by decide +kernel
theorem dX8_pipe_73 : decode cX8_pipe 73 = .ok (.getfield 99, 3) := by decide +kernel
theorem dX8_pipe_76 : decode cX8_pipe 76 = .ok (.iload_n 2, 1) := by decide +kernel
theorem dX8_pipe_77 : decode cX8_pipe 77 = .ok (.iastore, 1) := by decide +kernel
theorem dX8_pipe_78 : decode cX8_pipe 78 = .ok (.aload_n 0, 1) := by decide +kernel
theorem dX8_pipe_79 : decode cX8_pipe 79 = .ok (.getfield 16, 3) := by decide +kernel
theorem dX8_pipe_82 : decode cX8_pipe 82 = .ok (.aload_n 0, 1) := by decide +kernel
theorem dX8_pipe_83 : decode cX8_pipe 83 = .ok (.getfield 99, 3) := by decide +kernel
theorem dX8_pipe_86 : decode cX8_pipe 86 = .ok (.iload_n 3, 1) := by decide +kernel
theorem dX8_pipe_87 : decode cX8_pipe 87 = .ok (.iastore, 1) := by decide +kernel
theorem dX8_pipe_88 : decode cX8_pipe 88 = .ok (.aload_n 0, 1) := by decide +kernel
theorem dX8_pipe_89 : decode cX8_pipe 89 = .ok (.getfield 19, 3) := by decide +kernel
theorem dX8_pipe_92 : decode cX8_pipe 92 = .ok (.aload_n 0, 1) := by decide +kernel
theorem dX8_pipe_93 : decode cX8_pipe 93 = .ok (.getfield 99, 3) := by decide +kernel
theorem dX8_pipe_96 : decode cX8_pipe 96 = .ok (.iconst 0, 1) := by decide +kernel
theorem dX8_pipe_97 : decode cX8_pipe 97 = .ok (.iastore, 1) := by decide +kernel
theorem dX8_pipe_98 : decode cX8_pipe 98 = .ok (.aload_n 0, 1) := by decide +kernel
theorem dX8_pipe_99 : decode cX8_pipe 99 = .ok (.dup, 1) := by decide +kernel
theorem dX8_pipe_100 : decode cX8_pipe 100 = .ok (.getfield 99, 3) := by decide +kernel
theorem dX8_pipe_103 : decode cX8_pipe 103 = .ok (.iconst 1, 1) := by decide +kernel
theorem dX8_pipe_104 : decode cX8_pipe 104 = .ok (.iadd, 1) := by decide +kernel
theorem dX8_pipe_105 : decode cX8_pipe 105 = .ok (.putfield 99, 3) := by decide +kernel
theorem dX8_pipe_108 : decode cX8_pipe 108 = .ok (.aload_n 0, 1) := by decide +kernel
theorem dX8_pipe_109 : decode cX8_pipe 109 = .ok (.getfield 99, 3) := by decide +kernel
theorem dX8_pipe_112 : decode cX8_pipe 112 = .ok (.iconst 1, 1) := by decide +kernel
theorem dX8_pipe_113 : decode cX8_pipe 113 = .ok (.isub, 1) := by decide +kernel
theorem dX8_pipe_114 : decode cX8_pipe 114 = .ok (.ireturn, 1) := by decide +kernel
set_option maxRecDepth 20000 in
theorem ggX8_leak_X8_isPipe : GoodIn wsX8_leak wsX8_isPipe := goodIn_r _ [9, 10, 11, 12, 8, 13, 14, 15, 16, 17, 18, 19, 20, 21, 22, 23, 24, 25, 26, 27, 28, 29, 30, 31, 32, 33, 34, 35, 36, 37, 38, 39, 40, 41, 42, 43, 44, 45, 46, 47, 48, 49, 50, 51, 52, 53, 54, 55, 56, 57, 58, 59, 60, 61] (by decide +kernel) (by decide +kernel)
set_option maxRecDepth 20000 in
theorem gX8_leak_X8_isPipe : GoodIn wsX8_leak (wsV RX8 107 RX8 yX8_isPipe wsX8_isPipe) := goodIn_app (goodIn_of _ (by decide +kernel)) ggX8_leak_X8_isPipe
set_option maxRecDepth 20000 in
theorem ggX8_leak_X8_in : GoodIn wsX8_leak wsX8_in := goodIn_r _ [13] (by decide +kernel) (by decide +kernel)
set_option maxRecDepth 20000 in
theorem gX8_leak_X8_in : GoodIn wsX8_leak (va_wsS RX8 102 yX8_in wsX8_in) := goodIn_app (goodIn_of _ (by decide +kernel)) ggX8_leak_X8_in
theorem dX8_leak_0 : decode cX8_leak 0 = .ok (.aload_n 0, 1) := by decide +kernel
theorem dX8_leak_1 : decode cX8_leak 1 = .ok (.iconst 0, 1) := by decide +kernel
theorem dX8_leak_2 : decode cX8_leak 2 = .ok (.putfield 95, 3) := by decide +kernel
theorem dX8_leak_5 : decode cX8_leak 5 = .ok (.aload_n 0, 1) := by decide +kernel
theorem dX8_leak_6 : decode cX8_leak 6 = .ok (.iload_n 1, 1) := by decide +kernel
theorem dX8_leak_7 : decode cX8_leak 7 = .ok (.invokevirtual 107, 3) := by decide +kernel
theorem dX8_leak_10 : decode cX8_leak 10 = .ok (.ifCond .eq 15, 3) := by decide +kernel
theorem dX8_leak_13 : decode cX8_leak 13 = .ok (.iload_n 2, 1) := by decide +kernel
theorem dX8_leak_14 : decode cX8_leak 14 = .ok (.i2l, 1) := by decide +kernel
theorem dX8_leak_15 : decode cX8_leak 15 = .ok (.lconst 0, 1) := by decide +kernel
theorem dX8_leak_16 : decode cX8_leak 16 = .ok (.ldc2_w 117, 3) := by decide +kernel
theorem dX8_leak_19 : decode cX8_leak 19 = .ok (.invokestatic 102, 3) := by decide +kernel
theorem dX8_leak_22 : decode cX8_leak 22 = .ok (.ifCond .ne 6, 3) := by decide +kernel
theorem dX8_leak_25 : decode cX8_leak 25 = .ok (.ldc 115, 2) := by decide +kernel
theorem dX8_leak_27 : decode cX8_leak 27 = .ok (.ireturn, 1) := by decide +kernel
theorem dX8_leak_28 : decode cX8_leak 28 = .ok (.aload_n 0, 1) := by decide +kernel
theorem dX8_leak_29 : decode cX8_leak 29 = .ok (.getfield 19, 3) := by decide +kernel
theorem dX8_leak_32 : decode cX8_leak 32 = .ok (.iload_n 1, 1) := by decide +kernel
theorem dX8_leak_33 : decode cX8_leak 33 = .ok (.iaload, 1) := by decide +kernel
theorem dX8_leak_34 : decode cX8_leak 34 = .ok (.istore_n 3, 1) := by decide +kernel
theorem dX8_leak_35 : decode cX8_leak 35 = .ok (.aload_n 0, 1) := by decide +kernel
theorem dX8_leak_36 : decode cX8_leak 36 = .ok (.getfield 19, 3) := by decide +kernel
theorem dX8_leak_39 : decode cX8_leak 39 = .ok (.iload_n 1, 1) := by decide +kernel
theorem dX8_leak_40 : decode cX8_leak 40 = .ok (.iload_n 2, 1) := by decide +kernel
theorem dX8_leak_41 : decode cX8_leak 41 = .ok (.iastore, 1) := by decide +kernel
theorem dX8_leak_42 : decode cX8_leak 42 = .ok (.iload_n 3, 1) := by decide +kernel
theorem dX8_leak_43 : decode cX8_leak 43 = .ok (.ireturn, 1) := by decide +kernel
theorem dX8_findAir_0 : decode cX8_findAir 0 = .ok (.iconst 0, 1) := by decide +kernel
theorem dX8_findAir_1 : decode cX8_findAir 1 = .ok (.istore_n 1, 1) := by decide +kernel
theorem dX8_findAir_2 : decode cX8_findAir 2 = .ok (.iload_n 1, 1) := by decide +kernel
theorem dX8_findAir_3 : decode cX8_findAir 3 = .ok (.aload_n 0, 1) := by decide +kernel
theorem dX8_findAir_4 : decode cX8_findAir 4 = .ok (.getfield 99, 3) := by decide +kernel
theorem dX8_findAir_7 : decode cX8_findAir 7 = .ok (.if_icmp .ge 66, 3) := by decide +kernel
theorem dX8_findAir_10 : decode cX8_findAir 10 = .ok (.aload_n 0, 1) := by decide +kernel
theorem dX8_findAir_11 : decode cX8_findAir 11 = .ok (.getfield 7, 3) := by decide +kernel
theorem dX8_findAir_14 : decode cX8_findAir 14 = .ok (.iload_n 1, 1) := by decide +kernel
theorem dX8_findAir_15 : decode cX8_findAir 15 = .ok (.iaload, 1) := by decide +kernel
theorem dX8_findAir_16 : decode cX8_findAir 16 = .ok (.ldc 106, 2) := by decide +kernel
theorem dX8_findAir_18 : decode cX8_findAir 18 = .ok (.if_icmp .ne 8, 3) := by decide +kernel
theorem dX8_findAir_21 : decode cX8_findAir 21 = .ok (.bipush 100, 2) := by decide +kernel
theorem dX8_findAir_23 : decode cX8_findAir 23 = .ok (.goto 14, 3) := by decide +kernel
theorem dX8_findAir_26 : decode cX8_findAir 26 = .ok (.aload_n 0, 1) := by decide +kernel
theorem dX8_findAir_27 : decode cX8_findAir 27 = .ok (.getfield 22, 3) := by decide +kernel
theorem dX8_findAir_30 : decode cX8_findAir 30 = .ok (.aload_n 0, 1) := by decide +kernel
theorem dX8_findAir_31 : decode cX8_findAir 31 = .ok (.getfield 7, 3) := by decide +kernel
theorem dX8_findAir_34 : decode cX8_findAir 34 = .ok (.iload_n 1, 1) := by decide +kernel
theorem dX8_findAir_35 : decode cX8_findAir 35 = .ok (.iaload, 1) := by decide +kernel
theorem dX8_findAir_36 : decode cX8_findAir 36 = .ok (.iaload, 1) := by decide +kernel
theorem dX8_findAir_37 : decode cX8_findAir 37 = .ok (.aload_n 0, 1) := by decide +kernel
theorem dX8_findAir_38 : decode cX8_findAir 38 = .ok (.getfield 13, 3) := by decide +kernel
theorem dX8_findAir_41 : decode cX8_findAir 41 = .ok (.iload_n 1, 1) := by decide +kernel
theorem dX8_findAir_42 : decode cX8_findAir 42 = .ok (.iaload, 1) := by decide +kernel
theorem dX8_findAir_43 : decode cX8_findAir 43 = .ok (.isub, 1) := by decide +kernel
theorem dX8_findAir_44 : decode cX8_findAir 44 = .ok (.aload_n 0, 1) := by decide +kernel
theorem dX8_findAir_45 : decode cX8_findAir 45 = .ok (.getfield 19, 3) := by decide +kernel
theorem dX8_findAir_48 : decode cX8_findAir 48 = .ok (.iload_n 1, 1) := by decide +kernel
theorem dX8_findAir_49 : decode cX8_findAir 49 = .ok (.iaload, 1) := by decide +kernel
theorem dX8_findAir_50 : decode cX8_findAir 50 = .ok (.isub, 1) := by decide +kernel
theorem dX8_findAir_51 : decode cX8_findAir 51 = .ok (.istore_n 2, 1) := by decide +kernel
theorem dX8_findAir_52 : decode cX8_findAir 52 = .ok (.aload_n 0, 1) := by decide +kernel
theorem dX8_findAir_53 : decode cX8_findAir 53 = .ok (.getfield 22, 3) := by decide +kernel
theorem dX8_findAir_56 : decode cX8_findAir 56 = .ok (.iload_n 1, 1) := by decide +kernel
theorem dX8_findAir_57 : decode cX8_findAir 57 = .ok (.iload_n 2, 1) := by decide +kernel
theorem dX8_findAir_58 : decode cX8_findAir 58 = .ok (.ifCond .ge 7, 3) := by decide +kernel
theorem dX8_findAir_61 : decode cX8_findAir 61 = .ok (.iconst 0, 1) := by decide +kernel
theorem dX8_findAir_62 : decode cX8_findAir 62 = .ok (.goto 4, 3) := by decide +kernel
theorem dX8_findAir_65 : decode cX8_findAir 65 = .ok (.iload_n 2, 1) := by decide +kernel
theorem dX8_findAir_66 : decode cX8_findAir 66 = .ok (.iastore, 1) := by decide +kernel
theorem dX8_findAir_67 : decode cX8_findAir 67 = .ok (.iinc 1 1, 3) := by decide +kernel
theorem dX8_findAir_70 : decode cX8_findAir 70 = .ok (.goto (-68), 3) := by decide +kernel
theorem dX8_findAir_73 : decode cX8_findAir 73 = .ok (.return_, 1) := by decide +kernel
theorem dX8_findAirBy_0 : decode cX8_findAirBy 0 = .ok (.iconst 0, 1) := by decide +kernel
theorem dX8_findAirBy_1 : decode cX8_findAirBy 1 = .ok (.istore_n 3, 1) := by decide +kernel
theorem dX8_findAirBy_2 : decode cX8_findAirBy 2 = .ok (.iload_n 3, 1) := by decide +kernel
theorem dX8_findAirBy_3 : decode cX8_findAirBy 3 = .ok (.aload_n 0, 1) := by decide +kernel
theorem dX8_findAirBy_4 : decode cX8_findAirBy 4 = .ok (.getfield 99, 3) := by decide +kernel
theorem dX8_findAirBy_7 : decode cX8_findAirBy 7 = .ok (.if_icmp .ge 73, 3) := by decide +kernel
theorem dX8_findAirBy_10 : decode cX8_findAirBy 10 = .ok (.aload_n 0, 1) := by decide +kernel
theorem dX8_findAirBy_11 : decode cX8_findAirBy 11 = .ok (.getfield 7, 3) := by decide +kernel
theorem dX8_findAirBy_14 : decode cX8_findAirBy 14 = .ok (.iload_n 3, 1) := by decide +kernel
theorem dX8_findAirBy_15 : decode cX8_findAirBy 15 = .ok (.iaload, 1) := by decide +kernel
theorem dX8_findAirBy_16 : decode cX8_findAirBy 16 = .ok (.ldc 106, 2) := by decide +kernel
theorem dX8_findAirBy_18 : decode cX8_findAirBy 18 = .ok (.if_icmp .ne 8, 3) := by decide +kernel
theorem dX8_findAirBy_21 : decode cX8_findAirBy 21 = .ok (.bipush 100, 2) := by decide +kernel
theorem dX8_findAirBy_23 : decode cX8_findAirBy 23 = .ok (.goto 14, 3) := by decide +kernel
theorem dX8_findAirBy_26 : decode cX8_findAirBy 26 = .ok (.aload_n 0, 1) := by decide +kernel
theorem dX8_findAirBy_27 : decode cX8_findAirBy 27 = .ok (.getfield 22, 3) := by decide +kernel
theorem dX8_findAirBy_30 : decode cX8_findAirBy 30 = .ok (.aload_n 0, 1) := by decide +kernel
theorem dX8_findAirBy_31 : decode cX8_findAirBy 31 = .ok (.getfield 7, 3) := by decide +kernel
theorem dX8_findAirBy_34 : decode cX8_findAirBy 34 = .ok (.iload_n 3, 1) := by decide +kernel
theorem dX8_findAirBy_35 : decode cX8_findAirBy 35 = .ok (.iaload, 1) := by decide +kernel
theorem dX8_findAirBy_36 : decode cX8_findAirBy 36 = .ok (.iaload, 1) := by decide +kernel
theorem dX8_findAirBy_37 : decode cX8_findAirBy 37 = .ok (.aload_n 0, 1) := by decide +kernel
theorem dX8_findAirBy_38 : decode cX8_findAirBy 38 = .ok (.getfield 13, 3) := by decide +kernel
theorem dX8_findAirBy_41 : decode cX8_findAirBy 41 = .ok (.iload_n 3, 1) := by decide +kernel
theorem dX8_findAirBy_42 : decode cX8_findAirBy 42 = .ok (.iaload, 1) := by decide +kernel
theorem dX8_findAirBy_43 : decode cX8_findAirBy 43 = .ok (.isub, 1) := by decide +kernel
theorem dX8_findAirBy_44 : decode cX8_findAirBy 44 = .ok (.iload_n 3, 1) := by decide +kernel
theorem dX8_findAirBy_45 : decode cX8_findAirBy 45 = .ok (.iload_n 1, 1) := by decide +kernel
theorem dX8_findAirBy_46 : decode cX8_findAirBy 46 = .ok (.if_icmp .ne 7, 3) := by decide +kernel
theorem dX8_findAirBy_49 : decode cX8_findAirBy 49 = .ok (.iload_n 2, 1) := by decide +kernel
theorem dX8_findAirBy_50 : decode cX8_findAirBy 50 = .ok (.goto 4, 3) := by decide +kernel
theorem dX8_findAirBy_53 : decode cX8_findAirBy 53 = .ok (.iconst 0, 1) := by decide +kernel
theorem dX8_findAirBy_54 : decode cX8_findAirBy 54 = .ok (.isub, 1) := by decide +kernel
theorem dX8_findAirBy_55 : decode cX8_findAirBy 55 = .ok (.istore 4, 2) := by decide +kernel
theorem dX8_findAirBy_57 : decode cX8_findAirBy 57 = .ok (.aload_n 0, 1) := by decide +kernel
theorem dX8_findAirBy_58 : decode cX8_findAirBy 58 = .ok (.getfield 22, 3) := by decide +kernel
theorem dX8_findAirBy_61 : decode cX8_findAirBy 61 = .ok (.iload_n 3, 1) := by decide +kernel
theorem dX8_findAirBy_62 : decode cX8_findAirBy 62 = .ok (.iload 4, 2) := by decide +kernel
theorem dX8_findAirBy_64 : decode cX8_findAirBy 64 = .ok (.ifCond .ge 7, 3) := by decide +kernel
theorem dX8_findAirBy_67 : decode cX8_findAirBy 67 = .ok (.iconst 0, 1) := by decide +kernel
theorem dX8_findAirBy_68 : decode cX8_findAirBy 68 = .ok (.goto 5, 3) := by decide +kernel
theorem dX8_findAirBy_71 : decode cX8_findAirBy 71 = .ok (.iload 4, 2) := by decide +kernel
theorem dX8_findAirBy_73 : decode cX8_findAirBy 73 = .ok (.iastore, 1) := by decide +kernel
theorem dX8_findAirBy_74 : decode cX8_findAirBy 74 = .ok (.iinc 3 1, 3) := by decide +kernel
theorem dX8_findAirBy_77 : decode cX8_findAirBy 77 = .ok (.goto (-75), 3) := by decide +kernel
theorem dX8_findAirBy_80 : decode cX8_findAirBy 80 = .ok (.return_, 1) := by decide +kernel
theorem dX8_lagOf_0 : decode cX8_lagOf 0 = .ok (.iconst 0, 1) := by decide +kernel
theorem dX8_lagOf_1 : decode cX8_lagOf 1 = .ok (.istore_n 2, 1) := by decide +kernel
theorem dX8_lagOf_2 : decode cX8_lagOf 2 = .ok (.iload_n 1, 1) := by decide +kernel
theorem dX8_lagOf_3 : decode cX8_lagOf 3 = .ok (.istore_n 3, 1) := by decide +kernel
theorem dX8_lagOf_4 : decode cX8_lagOf 4 = .ok (.iload_n 3, 1) := by decide +kernel
theorem dX8_lagOf_5 : decode cX8_lagOf 5 = .ok (.ldc 106, 2) := by decide +kernel
theorem dX8_lagOf_7 : decode cX8_lagOf 7 = .ok (.if_icmp .eq 22, 3) := by decide +kernel
theorem dX8_lagOf_10 : decode cX8_lagOf 10 = .ok (.iload_n 2, 1) := by decide +kernel
theorem dX8_lagOf_11 : decode cX8_lagOf 11 = .ok (.aload_n 0, 1) := by decide +kernel
theorem dX8_lagOf_12 : decode cX8_lagOf 12 = .ok (.getfield 16, 3) := by decide +kernel
theorem dX8_lagOf_15 : decode cX8_lagOf 15 = .ok (.iload_n 3, 1) := by decide +kernel
theorem dX8_lagOf_16 : decode cX8_lagOf 16 = .ok (.iaload, 1) := by decide +kernel
theorem dX8_lagOf_17 : decode cX8_lagOf 17 = .ok (.iadd, 1) := by decide +kernel
theorem dX8_lagOf_18 : decode cX8_lagOf 18 = .ok (.istore_n 2, 1) := by decide +kernel
theorem dX8_lagOf_19 : decode cX8_lagOf 19 = .ok (.aload_n 0, 1) := by decide +kernel
theorem dX8_lagOf_20 : decode cX8_lagOf 20 = .ok (.getfield 7, 3) := by decide +kernel
theorem dX8_lagOf_23 : decode cX8_lagOf 23 = .ok (.iload_n 3, 1) := by decide +kernel
theorem dX8_lagOf_24 : decode cX8_lagOf 24 = .ok (.iaload, 1) := by decide +kernel
theorem dX8_lagOf_25 : decode cX8_lagOf 25 = .ok (.istore_n 3, 1) := by decide +kernel
theorem dX8_lagOf_26 : decode cX8_lagOf 26 = .ok (.goto (-22), 3) := by decide +kernel
theorem dX8_lagOf_29 : decode cX8_lagOf 29 = .ok (.iload_n 2, 1) := by decide +kernel
theorem dX8_lagOf_30 : decode cX8_lagOf 30 = .ok (.ireturn, 1) := by decide +kernel
set_option maxRecDepth 20000 in
theorem ggX8_told_X8_isPipe : GoodIn wsX8_told wsX8_isPipe := goodIn_r _ [10, 11, 12, 13, 9, 14, 27, 28, 29, 30, 31, 32, 33, 34, 35, 36, 37, 38, 39, 40, 41, 42, 43, 44, 45, 46, 47, 48, 49, 50, 51, 52, 53, 54, 55, 56, 57, 58, 59, 60, 61, 62, 63, 64, 65, 66, 67, 68, 69, 70, 71, 72, 73, 74] (by decide +kernel) (by decide +kernel)
set_option maxRecDepth 20000 in
theorem gX8_told_X8_isPipe : GoodIn wsX8_told (wsV RX8 107 RX8 yX8_isPipe wsX8_isPipe) := goodIn_app (goodIn_of _ (by decide +kernel)) ggX8_told_X8_isPipe
set_option maxRecDepth 20000 in
theorem ggX8_told_X8_in : GoodIn wsX8_told wsX8_in := goodIn_r _ [14] (by decide +kernel) (by decide +kernel)
set_option maxRecDepth 20000 in
theorem gX8_told_X8_in : GoodIn wsX8_told (va_wsS RX8 102 yX8_in wsX8_in) := goodIn_app (goodIn_of _ (by decide +kernel)) ggX8_told_X8_in
set_option maxRecDepth 20000 in
theorem ggX8_told_X8_findAir : GoodIn wsX8_told wsX8_findAir := goodIn_r _ [18, 11, 19, 20, 4, 21, 5, 27, 28, 29, 30, 31, 32, 33, 34, 35, 36, 37, 38, 39, 40, 41, 42, 43, 44, 45, 46, 47, 48, 49, 50, 51, 52, 53, 54, 55, 56, 57, 58, 59, 60, 61, 62, 63, 64, 65, 66, 67, 68, 69, 70, 71, 72, 73, 74] (by decide +kernel) (by decide +kernel)
set_option maxRecDepth 20000 in
theorem gX8_told_X8_findAir : GoodIn wsX8_told (wsV RX8 121 RX8 yX8_findAir wsX8_findAir) := goodIn_app (goodIn_of _ (by decide +kernel)) ggX8_told_X8_findAir
set_option maxRecDepth 20000 in
theorem ggX8_told_X8_lagOf : GoodIn wsX8_told wsX8_lagOf := goodIn_r _ [25, 20, 26, 19, 27, 28, 29, 30, 31, 32, 33, 34, 35, 36, 37, 38, 39, 40, 41, 42, 43, 44, 45, 46, 47, 48, 49, 50, 51, 52, 53, 54, 55, 56, 57, 58, 59, 60, 61, 62, 63, 64, 65, 66, 67, 68, 69, 70, 71, 72, 73, 74] (by decide +kernel) (by decide +kernel)
set_option maxRecDepth 20000 in
theorem gX8_told_X8_lagOf : GoodIn wsX8_told (wsV RX8 124 RX8 yX8_lagOf wsX8_lagOf) := goodIn_app (goodIn_of _ (by decide +kernel)) ggX8_told_X8_lagOf
theorem dX8_told_0 : decode cX8_told 0 = .ok (.aload_n 0, 1) := by decide +kernel
theorem dX8_told_1 : decode cX8_told 1 = .ok (.iconst 0, 1) := by decide +kernel
theorem dX8_told_2 : decode cX8_told 2 = .ok (.putfield 95, 3) := by decide +kernel
theorem dX8_told_5 : decode cX8_told 5 = .ok (.aload_n 0, 1) := by decide +kernel
theorem dX8_told_6 : decode cX8_told 6 = .ok (.iload_n 1, 1) := by decide +kernel
theorem dX8_told_7 : decode cX8_told 7 = .ok (.invokevirtual 107, 3) := by decide +kernel
theorem dX8_told_10 : decode cX8_told 10 = .ok (.ifCond .eq 15, 3) := by decide +kernel
theorem dX8_told_13 : decode cX8_told 13 = .ok (.iload_n 2, 1) := by decide +kernel
theorem dX8_told_14 : decode cX8_told 14 = .ok (.i2l, 1) := by decide +kernel
theorem dX8_told_15 : decode cX8_told 15 = .ok (.lconst 0, 1) := by decide +kernel
theorem dX8_told_16 : decode cX8_told 16 = .ok (.ldc2_w 119, 3) := by decide +kernel
theorem dX8_told_19 : decode cX8_told 19 = .ok (.invokestatic 102, 3) := by decide +kernel
theorem dX8_told_22 : decode cX8_told 22 = .ok (.ifCond .ne 6, 3) := by decide +kernel
theorem dX8_told_25 : decode cX8_told 25 = .ok (.ldc 115, 2) := by decide +kernel
theorem dX8_told_27 : decode cX8_told 27 = .ok (.ireturn, 1) := by decide +kernel
theorem dX8_told_28 : decode cX8_told 28 = .ok (.aload_n 0, 1) := by decide +kernel
theorem dX8_told_29 : decode cX8_told 29 = .ok (.invokevirtual 121, 3) := by decide +kernel
theorem dX8_told_32 : decode cX8_told 32 = .ok (.iload_n 2, 1) := by decide +kernel
theorem dX8_told_33 : decode cX8_told 33 = .ok (.ifCond .ne 12, 3) := by decide +kernel
theorem dX8_told_36 : decode cX8_told 36 = .ok (.aload_n 0, 1) := by decide +kernel
theorem dX8_told_37 : decode cX8_told 37 = .ok (.getfield 22, 3) := by decide +kernel
theorem dX8_told_40 : decode cX8_told 40 = .ok (.iload_n 1, 1) := by decide +kernel
theorem dX8_told_41 : decode cX8_told 41 = .ok (.iaload, 1) := by decide +kernel
theorem dX8_told_42 : decode cX8_told 42 = .ok (.goto 22, 3) := by decide +kernel
theorem dX8_told_45 : decode cX8_told 45 = .ok (.iload_n 2, 1) := by decide +kernel
theorem dX8_told_46 : decode cX8_told 46 = .ok (.iconst 1, 1) := by decide +kernel
theorem dX8_told_47 : decode cX8_told 47 = .ok (.if_icmp .ne 11, 3) := by decide +kernel
theorem dX8_told_50 : decode cX8_told 50 = .ok (.aload_n 0, 1) := by decide +kernel
theorem dX8_told_51 : decode cX8_told 51 = .ok (.iload_n 1, 1) := by decide +kernel
theorem dX8_told_52 : decode cX8_told 52 = .ok (.invokevirtual 124, 3) := by decide +kernel
theorem dX8_told_55 : decode cX8_told 55 = .ok (.goto 9, 3) := by decide +kernel
theorem dX8_told_58 : decode cX8_told 58 = .ok (.aload_n 0, 1) := by decide +kernel
theorem dX8_told_59 : decode cX8_told 59 = .ok (.getfield 19, 3) := by decide +kernel
theorem dX8_told_62 : decode cX8_told 62 = .ok (.iload_n 1, 1) := by decide +kernel
theorem dX8_told_63 : decode cX8_told 63 = .ok (.iaload, 1) := by decide +kernel
theorem dX8_told_64 : decode cX8_told 64 = .ok (.ireturn, 1) := by decide +kernel
set_option maxRecDepth 20000 in
theorem ggX8_isDial_X8_in : GoodIn wsX8_isDial wsX8_in := goodIn_r _ [5] (by decide +kernel) (by decide +kernel)
set_option maxRecDepth 20000 in
theorem gX8_isDial_X8_in : GoodIn wsX8_isDial (va_wsS RX8 102 yX8_in wsX8_in) := goodIn_app (goodIn_of _ (by decide +kernel)) ggX8_isDial_X8_in
theorem dX8_isDial_0 : decode cX8_isDial 0 = .ok (.iload_n 1, 1) := by decide +kernel
theorem dX8_isDial_1 : decode cX8_isDial 1 = .ok (.i2l, 1) := by decide +kernel
theorem dX8_isDial_2 : decode cX8_isDial 2 = .ok (.lconst 0, 1) := by decide +kernel
theorem dX8_isDial_3 : decode cX8_isDial 3 = .ok (.aload_n 0, 1) := by decide +kernel
theorem dX8_isDial_4 : decode cX8_isDial 4 = .ok (.getfield 128, 3) := by decide +kernel
theorem dX8_isDial_7 : decode cX8_isDial 7 = .ok (.iconst 1, 1) := by decide +kernel
theorem dX8_isDial_8 : decode cX8_isDial 8 = .ok (.isub, 1) := by decide +kernel
theorem dX8_isDial_9 : decode cX8_isDial 9 = .ok (.i2l, 1) := by decide +kernel
theorem dX8_isDial_10 : decode cX8_isDial 10 = .ok (.invokestatic 102, 3) := by decide +kernel
theorem dX8_isDial_13 : decode cX8_isDial 13 = .ok (.ireturn, 1) := by decide +kernel
set_option maxRecDepth 20000 in
theorem ggX8_dial_X8_isPipe : GoodIn wsX8_dial wsX8_isPipe := goodIn_r _ [14, 15, 16, 17, 13, 18, 19, 20, 21, 22, 23, 24, 25, 26, 27, 28, 29, 30, 31, 32, 33, 34, 35, 36, 37, 38, 39, 40, 41, 42, 43, 44, 45, 46, 47, 48, 49, 50, 51, 52, 53, 54, 55, 56, 57, 58, 59, 60, 61, 62, 63, 64, 65, 66] (by decide +kernel) (by decide +kernel)
set_option maxRecDepth 20000 in
theorem gX8_dial_X8_isPipe : GoodIn wsX8_dial (wsV RX8 107 RX8 yX8_isPipe wsX8_isPipe) := goodIn_app (goodIn_of _ (by decide +kernel)) ggX8_dial_X8_isPipe
set_option maxRecDepth 20000 in
theorem ggX8_dial_X8_in : GoodIn wsX8_dial wsX8_in := goodIn_r _ [18] (by decide +kernel) (by decide +kernel)
set_option maxRecDepth 20000 in
theorem gX8_dial_X8_in : GoodIn wsX8_dial (va_wsS RX8 102 yX8_in wsX8_in) := goodIn_app (goodIn_of _ (by decide +kernel)) ggX8_dial_X8_in
theorem dX8_dial_0 : decode cX8_dial 0 = .ok (.aload_n 0, 1) := by decide +kernel
theorem dX8_dial_1 : decode cX8_dial 1 = .ok (.iconst 0, 1) := by decide +kernel
theorem dX8_dial_2 : decode cX8_dial 2 = .ok (.putfield 95, 3) := by decide +kernel
theorem dX8_dial_5 : decode cX8_dial 5 = .ok (.aload_n 0, 1) := by decide +kernel
theorem dX8_dial_6 : decode cX8_dial 6 = .ok (.iload_n 1, 1) := by decide +kernel
theorem dX8_dial_7 : decode cX8_dial 7 = .ok (.invokevirtual 107, 3) := by decide +kernel
theorem dX8_dial_10 : decode cX8_dial 10 = .ok (.ifCond .eq 27, 3) := by decide +kernel
theorem dX8_dial_13 : decode cX8_dial 13 = .ok (.iload_n 2, 1) := by decide +kernel
theorem dX8_dial_14 : decode cX8_dial 14 = .ok (.i2l, 1) := by decide +kernel
theorem dX8_dial_15 : decode cX8_dial 15 = .ok (.lconst 1, 1) := by decide +kernel
theorem dX8_dial_16 : decode cX8_dial 16 = .ok (.ldc2_w 131, 3) := by decide +kernel
theorem dX8_dial_19 : decode cX8_dial 19 = .ok (.invokestatic 102, 3) := by decide +kernel
theorem dX8_dial_22 : decode cX8_dial 22 = .ok (.ifCond .eq 15, 3) := by decide +kernel
theorem dX8_dial_25 : decode cX8_dial 25 = .ok (.iload_n 3, 1) := by decide +kernel
theorem dX8_dial_26 : decode cX8_dial 26 = .ok (.i2l, 1) := by decide +kernel
theorem dX8_dial_27 : decode cX8_dial 27 = .ok (.lconst 0, 1) := by decide +kernel
theorem dX8_dial_28 : decode cX8_dial 28 = .ok (.ldc2_w 119, 3) := by decide +kernel
theorem dX8_dial_31 : decode cX8_dial 31 = .ok (.invokestatic 102, 3) := by decide +kernel
theorem dX8_dial_34 : decode cX8_dial 34 = .ok (.ifCond .ne 6, 3) := by decide +kernel
theorem dX8_dial_37 : decode cX8_dial 37 = .ok (.ldc 115, 2) := by decide +kernel
theorem dX8_dial_39 : decode cX8_dial 39 = .ok (.ireturn, 1) := by decide +kernel
theorem dX8_dial_40 : decode cX8_dial 40 = .ok (.aload_n 0, 1) := by decide +kernel
theorem dX8_dial_41 : decode cX8_dial 41 = .ok (.getfield 128, 3) := by decide +kernel
theorem dX8_dial_44 : decode cX8_dial 44 = .ok (.bipush 40, 2) := by decide +kernel
theorem dX8_dial_46 : decode cX8_dial 46 = .ok (.if_icmp .ne 6, 3) := by decide +kernel
theorem dX8_dial_49 : decode cX8_dial 49 = .ok (.ldc 116, 2) := by decide +kernel
theorem dX8_dial_51 : decode cX8_dial 51 = .ok (.ireturn, 1) := by decide +kernel
theorem dX8_dial_52 : decode cX8_dial 52 = .ok (.aload_n 0, 1) := by decide +kernel
theorem dX8_dial_53 : decode cX8_dial 53 = .ok (.getfield 25, 3) := by decide +kernel
theorem dX8_dial_56 : decode cX8_dial 56 = .ok (.aload_n 0, 1) := by decide +kernel
theorem dX8_dial_57 : decode cX8_dial 57 = .ok (.getfield 128, 3) := by decide +kernel
theorem dX8_dial_60 : decode cX8_dial 60 = .ok (.iload_n 1, 1) := by decide +kernel
theorem dX8_dial_61 : decode cX8_dial 61 = .ok (.iastore, 1) := by decide +kernel
theorem dX8_dial_62 : decode cX8_dial 62 = .ok (.aload_n 0, 1) := by decide +kernel
theorem dX8_dial_63 : decode cX8_dial 63 = .ok (.getfield 28, 3) := by decide +kernel
theorem dX8_dial_66 : decode cX8_dial 66 = .ok (.aload_n 0, 1) := by decide +kernel
theorem dX8_dial_67 : decode cX8_dial 67 = .ok (.getfield 128, 3) := by decide +kernel
theorem dX8_dial_70 : decode cX8_dial 70 = .ok (.iload_n 2, 1) := by decide +kernel
theorem dX8_dial_71 : decode cX8_dial 71 = .ok (.iastore, 1) := by decide +kernel
theorem dX8_dial_72 : decode cX8_dial 72 = .ok (.aload_n 0, 1) := by decide +kernel
theorem dX8_dial_73 : decode cX8_dial 73 = .ok (.getfield 31, 3) := by decide +kernel
theorem dX8_dial_76 : decode cX8_dial 76 = .ok (.aload_n 0, 1) := by decide +kernel
theorem dX8_dial_77 : decode cX8_dial 77 = .ok (.getfield 128, 3) := by decide +kernel
theorem dX8_dial_80 : decode cX8_dial 80 = .ok (.iload_n 3, 1) := by decide +kernel
theorem dX8_dial_81 : decode cX8_dial 81 = .ok (.iastore, 1) := by decide +kernel
theorem dX8_dial_82 : decode cX8_dial 82 = .ok (.aload_n 0, 1) := by decide +kernel
theorem dX8_dial_83 : decode cX8_dial 83 = .ok (.dup, 1) := by decide +kernel
theorem dX8_dial_84 : decode cX8_dial 84 = .ok (.getfield 128, 3) := by decide +kernel
theorem dX8_dial_87 : decode cX8_dial 87 = .ok (.iconst 1, 1) := by decide +kernel
theorem dX8_dial_88 : decode cX8_dial 88 = .ok (.iadd, 1) := by decide +kernel
theorem dX8_dial_89 : decode cX8_dial 89 = .ok (.putfield 128, 3) := by decide +kernel
theorem dX8_dial_92 : decode cX8_dial 92 = .ok (.aload_n 0, 1) := by decide +kernel
theorem dX8_dial_93 : decode cX8_dial 93 = .ok (.getfield 128, 3) := by decide +kernel
theorem dX8_dial_96 : decode cX8_dial 96 = .ok (.iconst 1, 1) := by decide +kernel
theorem dX8_dial_97 : decode cX8_dial 97 = .ok (.isub, 1) := by decide +kernel
theorem dX8_dial_98 : decode cX8_dial 98 = .ok (.ireturn, 1) := by decide +kernel
set_option maxRecDepth 20000 in
theorem ggX8_puff_X8_findAir : GoodIn wsX8_puff wsX8_findAir := goodIn_r _ [23, 24, 25, 26, 9, 27, 28, 29, 30, 31, 32, 33, 34, 35, 36, 37, 38, 39, 40, 41, 42, 43, 44, 45, 46, 47, 48, 49, 50, 51, 52, 53, 54, 55, 56, 57, 58, 59, 60, 61, 62, 63, 64, 65, 66, 67, 68, 69, 70, 71, 72, 73, 74, 75, 76] (by decide +kernel) (by decide +kernel)
set_option maxRecDepth 20000 in
theorem gX8_puff_X8_findAir : GoodIn wsX8_puff (wsV RX8 121 RX8 yX8_findAir wsX8_findAir) := goodIn_app (goodIn_of _ (by decide +kernel)) ggX8_puff_X8_findAir
theorem dX8_puff_0 : decode cX8_puff 0 = .ok (.aload_n 0, 1) := by decide +kernel
theorem dX8_puff_1 : decode cX8_puff 1 = .ok (.iconst 0, 1) := by decide +kernel
theorem dX8_puff_2 : decode cX8_puff 2 = .ok (.putfield 95, 3) := by decide +kernel
theorem dX8_puff_5 : decode cX8_puff 5 = .ok (.aload_n 0, 1) := by decide +kernel
theorem dX8_puff_6 : decode cX8_puff 6 = .ok (.getfield 133, 3) := by decide +kernel
theorem dX8_puff_9 : decode cX8_puff 9 = .ok (.ldc 136, 2) := by decide +kernel
theorem dX8_puff_11 : decode cX8_puff 11 = .ok (.if_icmp .ne 6, 3) := by decide +kernel
theorem dX8_puff_14 : decode cX8_puff 14 = .ok (.ldc 137, 2) := by decide +kernel
theorem dX8_puff_16 : decode cX8_puff 16 = .ok (.ireturn, 1) := by decide +kernel
theorem dX8_puff_17 : decode cX8_puff 17 = .ok (.aload_n 0, 1) := by decide +kernel
theorem dX8_puff_18 : decode cX8_puff 18 = .ok (.dup, 1) := by decide +kernel
theorem dX8_puff_19 : decode cX8_puff 19 = .ok (.getfield 133, 3) := by decide +kernel
theorem dX8_puff_22 : decode cX8_puff 22 = .ok (.iconst 1, 1) := by decide +kernel
theorem dX8_puff_23 : decode cX8_puff 23 = .ok (.iadd, 1) := by decide +kernel
theorem dX8_puff_24 : decode cX8_puff 24 = .ok (.putfield 133, 3) := by decide +kernel
theorem dX8_puff_27 : decode cX8_puff 27 = .ok (.aload_n 0, 1) := by decide +kernel
theorem dX8_puff_28 : decode cX8_puff 28 = .ok (.dup, 1) := by decide +kernel
theorem dX8_puff_29 : decode cX8_puff 29 = .ok (.getfield 138, 3) := by decide +kernel
theorem dX8_puff_32 : decode cX8_puff 32 = .ok (.aload_n 0, 1) := by decide +kernel
theorem dX8_puff_33 : decode cX8_puff 33 = .ok (.getfield 142, 3) := by decide +kernel
theorem dX8_puff_36 : decode cX8_puff 36 = .ok (.i2l, 1) := by decide +kernel
theorem dX8_puff_37 : decode cX8_puff 37 = .ok (.ladd, 1) := by decide +kernel
theorem dX8_puff_38 : decode cX8_puff 38 = .ok (.putfield 138, 3) := by decide +kernel
theorem dX8_puff_41 : decode cX8_puff 41 = .ok (.aload_n 0, 1) := by decide +kernel
theorem dX8_puff_42 : decode cX8_puff 42 = .ok (.invokevirtual 121, 3) := by decide +kernel
theorem dX8_puff_45 : decode cX8_puff 45 = .ok (.iconst 0, 1) := by decide +kernel
theorem dX8_puff_46 : decode cX8_puff 46 = .ok (.istore_n 1, 1) := by decide +kernel
theorem dX8_puff_47 : decode cX8_puff 47 = .ok (.iconst 0, 1) := by decide +kernel
theorem dX8_puff_48 : decode cX8_puff 48 = .ok (.istore_n 2, 1) := by decide +kernel
theorem dX8_puff_49 : decode cX8_puff 49 = .ok (.iload_n 2, 1) := by decide +kernel
theorem dX8_puff_50 : decode cX8_puff 50 = .ok (.aload_n 0, 1) := by decide +kernel
theorem dX8_puff_51 : decode cX8_puff 51 = .ok (.getfield 128, 3) := by decide +kernel
theorem dX8_puff_54 : decode cX8_puff 54 = .ok (.if_icmp .ge 201, 3) := by decide +kernel
theorem dX8_puff_57 : decode cX8_puff 57 = .ok (.aload_n 0, 1) := by decide +kernel
theorem dX8_puff_58 : decode cX8_puff 58 = .ok (.getfield 46, 3) := by decide +kernel
theorem dX8_puff_61 : decode cX8_puff 61 = .ok (.iload_n 2, 1) := by decide +kernel
theorem dX8_puff_62 : decode cX8_puff 62 = .ok (.aload_n 0, 1) := by decide +kernel
theorem dX8_puff_63 : decode cX8_puff 63 = .ok (.getfield 22, 3) := by decide +kernel
theorem dX8_puff_66 : decode cX8_puff 66 = .ok (.aload_n 0, 1) := by decide +kernel
theorem dX8_puff_67 : decode cX8_puff 67 = .ok (.getfield 25, 3) := by decide +kernel
theorem dX8_puff_70 : decode cX8_puff 70 = .ok (.iload_n 2, 1) := by decide +kernel
theorem dX8_puff_71 : decode cX8_puff 71 = .ok (.iaload, 1) := by decide +kernel
theorem dX8_puff_72 : decode cX8_puff 72 = .ok (.iaload, 1) := by decide +kernel
theorem dX8_puff_73 : decode cX8_puff 73 = .ok (.aload_n 0, 1) := by decide +kernel
theorem dX8_puff_74 : decode cX8_puff 74 = .ok (.getfield 28, 3) := by decide +kernel
theorem dX8_puff_77 : decode cX8_puff 77 = .ok (.iload_n 2, 1) := by decide +kernel
theorem dX8_puff_78 : decode cX8_puff 78 = .ok (.iaload, 1) := by decide +kernel
theorem dX8_puff_79 : decode cX8_puff 79 = .ok (.if_icmp .ge 7, 3) := by decide +kernel
theorem dX8_puff_82 : decode cX8_puff 82 = .ok (.iconst 1, 1) := by decide +kernel
theorem dX8_puff_83 : decode cX8_puff 83 = .ok (.goto 4, 3) := by decide +kernel
theorem dX8_puff_86 : decode cX8_puff 86 = .ok (.iconst 0, 1) := by decide +kernel
theorem dX8_puff_87 : decode cX8_puff 87 = .ok (.bastore, 1) := by decide +kernel
theorem dX8_puff_88 : decode cX8_puff 88 = .ok (.aload_n 0, 1) := by decide +kernel
theorem dX8_puff_89 : decode cX8_puff 89 = .ok (.getfield 34, 3) := by decide +kernel
theorem dX8_puff_92 : decode cX8_puff 92 = .ok (.iload_n 2, 1) := by decide +kernel
theorem dX8_puff_93 : decode cX8_puff 93 = .ok (.dup2, 1) := by decide +kernel
theorem dX8_puff_94 : decode cX8_puff 94 = .ok (.iaload, 1) := by decide +kernel
theorem dX8_puff_95 : decode cX8_puff 95 = .ok (.aload_n 0, 1) := by decide +kernel
theorem dX8_puff_96 : decode cX8_puff 96 = .ok (.getfield 46, 3) := by decide +kernel
theorem dX8_puff_99 : decode cX8_puff 99 = .ok (.iload_n 2, 1) := by decide +kernel
theorem dX8_puff_100 : decode cX8_puff 100 = .ok (.baload, 1) := by decide +kernel
theorem dX8_puff_101 : decode cX8_puff 101 = .ok (.ifCond .eq 7, 3) := by decide +kernel
theorem dX8_puff_104 : decode cX8_puff 104 = .ok (.iconst 1, 1) := by decide +kernel
theorem dX8_puff_105 : decode cX8_puff 105 = .ok (.goto 4, 3) := by decide +kernel
theorem dX8_puff_108 : decode cX8_puff 108 = .ok (.iconst 0, 1) := by decide +kernel
theorem dX8_puff_109 : decode cX8_puff 109 = .ok (.iadd, 1) := by decide +kernel
theorem dX8_puff_110 : decode cX8_puff 110 = .ok (.iastore, 1) := by decide +kernel
theorem dX8_puff_111 : decode cX8_puff 111 = .ok (.aload_n 0, 1) := by decide +kernel
theorem dX8_puff_112 : decode cX8_puff 112 = .ok (.getfield 37, 3) := by decide +kernel
theorem dX8_puff_115 : decode cX8_puff 115 = .ok (.iload_n 2, 1) := by decide +kernel
theorem dX8_puff_116 : decode cX8_puff 116 = .ok (.aload_n 0, 1) := by decide +kernel
theorem dX8_puff_117 : decode cX8_puff 117 = .ok (.getfield 46, 3) := by decide +kernel
theorem dX8_puff_120 : decode cX8_puff 120 = .ok (.iload_n 2, 1) := by decide +kernel
theorem dX8_puff_121 : decode cX8_puff 121 = .ok (.baload, 1) := by decide +kernel
theorem dX8_puff_122 : decode cX8_puff 122 = .ok (.ifCond .eq 14, 3) := by decide +kernel
theorem dX8_puff_125 : decode cX8_puff 125 = .ok (.aload_n 0, 1) := by decide +kernel
theorem dX8_puff_126 : decode cX8_puff 126 = .ok (.getfield 37, 3) := by decide +kernel
theorem dX8_puff_129 : decode cX8_puff 129 = .ok (.iload_n 2, 1) := by decide +kernel
theorem dX8_puff_130 : decode cX8_puff 130 = .ok (.iaload, 1) := by decide +kernel
theorem dX8_puff_131 : decode cX8_puff 131 = .ok (.iconst 1, 1) := by decide +kernel
theorem dX8_puff_132 : decode cX8_puff 132 = .ok (.iadd, 1) := by decide +kernel
theorem dX8_puff_133 : decode cX8_puff 133 = .ok (.goto 4, 3) := by decide +kernel
theorem dX8_puff_136 : decode cX8_puff 136 = .ok (.iconst 0, 1) := by decide +kernel
theorem dX8_puff_137 : decode cX8_puff 137 = .ok (.iastore, 1) := by decide +kernel
theorem dX8_puff_138 : decode cX8_puff 138 = .ok (.aload_n 0, 1) := by decide +kernel
theorem dX8_puff_139 : decode cX8_puff 139 = .ok (.getfield 43, 3) := by decide +kernel
theorem dX8_puff_142 : decode cX8_puff 142 = .ok (.iload_n 2, 1) := by decide +kernel
theorem dX8_puff_143 : decode cX8_puff 143 = .ok (.dup2, 1) := by decide +kernel
theorem dX8_puff_144 : decode cX8_puff 144 = .ok (.iaload, 1) := by decide +kernel
theorem dX8_puff_145 : decode cX8_puff 145 = .ok (.iconst 1, 1) := by decide +kernel
theorem dX8_puff_146 : decode cX8_puff 146 = .ok (.iadd, 1) := by decide +kernel
theorem dX8_puff_147 : decode cX8_puff 147 = .ok (.iastore, 1) := by decide +kernel
theorem dX8_puff_148 : decode cX8_puff 148 = .ok (.iload_n 1, 1) := by decide +kernel
theorem dX8_puff_149 : decode cX8_puff 149 = .ok (.aload_n 0, 1) := by decide +kernel
theorem dX8_puff_150 : decode cX8_puff 150 = .ok (.getfield 46, 3) := by decide +kernel
theorem dX8_puff_153 : decode cX8_puff 153 = .ok (.iload_n 2, 1) := by decide +kernel
theorem dX8_puff_154 : decode cX8_puff 154 = .ok (.baload, 1) := by decide +kernel
theorem dX8_puff_155 : decode cX8_puff 155 = .ok (.ifCond .eq 7, 3) := by decide +kernel
theorem dX8_puff_158 : decode cX8_puff 158 = .ok (.iconst 1, 1) := by decide +kernel
theorem dX8_puff_159 : decode cX8_puff 159 = .ok (.goto 4, 3) := by decide +kernel
theorem dX8_puff_162 : decode cX8_puff 162 = .ok (.iconst 0, 1) := by decide +kernel
theorem dX8_puff_163 : decode cX8_puff 163 = .ok (.iadd, 1) := by decide +kernel
theorem dX8_puff_164 : decode cX8_puff 164 = .ok (.istore_n 1, 1) := by decide +kernel
theorem dX8_puff_165 : decode cX8_puff 165 = .ok (.aload_n 0, 1) := by decide +kernel
theorem dX8_puff_166 : decode cX8_puff 166 = .ok (.getfield 53, 3) := by decide +kernel
theorem dX8_puff_169 : decode cX8_puff 169 = .ok (.iload_n 2, 1) := by decide +kernel
theorem dX8_puff_170 : decode cX8_puff 170 = .ok (.iaload, 1) := by decide +kernel
theorem dX8_puff_171 : decode cX8_puff 171 = .ok (.iconst 1, 1) := by decide +kernel
theorem dX8_puff_172 : decode cX8_puff 172 = .ok (.if_icmp .eq 22, 3) := by decide +kernel
theorem dX8_puff_175 : decode cX8_puff 175 = .ok (.aload_n 0, 1) := by decide +kernel
theorem dX8_puff_176 : decode cX8_puff 176 = .ok (.getfield 53, 3) := by decide +kernel
theorem dX8_puff_179 : decode cX8_puff 179 = .ok (.iload_n 2, 1) := by decide +kernel
theorem dX8_puff_180 : decode cX8_puff 180 = .ok (.iaload, 1) := by decide +kernel
theorem dX8_puff_181 : decode cX8_puff 181 = .ok (.iconst 2, 1) := by decide +kernel
theorem dX8_puff_182 : decode cX8_puff 182 = .ok (.if_icmp .ne 27, 3) := by decide +kernel
theorem dX8_puff_185 : decode cX8_puff 185 = .ok (.aload_n 0, 1) := by decide +kernel
theorem dX8_puff_186 : decode cX8_puff 186 = .ok (.getfield 46, 3) := by decide +kernel
theorem dX8_puff_189 : decode cX8_puff 189 = .ok (.iload_n 2, 1) := by decide +kernel
theorem dX8_puff_190 : decode cX8_puff 190 = .ok (.baload, 1) := by decide +kernel
theorem dX8_puff_191 : decode cX8_puff 191 = .ok (.ifCond .ne 18, 3) := by decide +kernel
theorem dX8_puff_194 : decode cX8_puff 194 = .ok (.aload_n 0, 1) := by decide +kernel
theorem dX8_puff_195 : decode cX8_puff 195 = .ok (.getfield 62, 3) := by decide +kernel
theorem dX8_puff_198 : decode cX8_puff 198 = .ok (.iload_n 2, 1) := by decide +kernel
theorem dX8_puff_199 : decode cX8_puff 199 = .ok (.dup2, 1) := by decide +kernel
theorem dX8_puff_200 : decode cX8_puff 200 = .ok (.iaload, 1) := by decide +kernel
theorem dX8_puff_201 : decode cX8_puff 201 = .ok (.aload_n 0, 1) := by decide +kernel
theorem dX8_puff_202 : decode cX8_puff 202 = .ok (.getfield 56, 3) := by decide +kernel
theorem dX8_puff_205 : decode cX8_puff 205 = .ok (.iload_n 2, 1) := by decide +kernel
theorem dX8_puff_206 : decode cX8_puff 206 = .ok (.iaload, 1) := by decide +kernel
theorem dX8_puff_207 : decode cX8_puff 207 = .ok (.iadd, 1) := by decide +kernel
theorem dX8_puff_208 : decode cX8_puff 208 = .ok (.iastore, 1) := by decide +kernel
theorem dX8_puff_209 : decode cX8_puff 209 = .ok (.aload_n 0, 1) := by decide +kernel
theorem dX8_puff_210 : decode cX8_puff 210 = .ok (.getfield 53, 3) := by decide +kernel
theorem dX8_puff_213 : decode cX8_puff 213 = .ok (.iload_n 2, 1) := by decide +kernel
theorem dX8_puff_214 : decode cX8_puff 214 = .ok (.iaload, 1) := by decide +kernel
theorem dX8_puff_215 : decode cX8_puff 215 = .ok (.iconst 3, 1) := by decide +kernel
theorem dX8_puff_216 : decode cX8_puff 216 = .ok (.if_icmp .ne 33, 3) := by decide +kernel
theorem dX8_puff_219 : decode cX8_puff 219 = .ok (.aload_n 0, 1) := by decide +kernel
theorem dX8_puff_220 : decode cX8_puff 220 = .ok (.getfield 34, 3) := by decide +kernel
theorem dX8_puff_223 : decode cX8_puff 223 = .ok (.iload_n 2, 1) := by decide +kernel
theorem dX8_puff_224 : decode cX8_puff 224 = .ok (.iaload, 1) := by decide +kernel
theorem dX8_puff_225 : decode cX8_puff 225 = .ok (.aload_n 0, 1) := by decide +kernel
theorem dX8_puff_226 : decode cX8_puff 226 = .ok (.getfield 56, 3) := by decide +kernel
theorem dX8_puff_229 : decode cX8_puff 229 = .ok (.iload_n 2, 1) := by decide +kernel
theorem dX8_puff_230 : decode cX8_puff 230 = .ok (.iaload, 1) := by decide +kernel
theorem dX8_puff_231 : decode cX8_puff 231 = .ok (.if_icmp .ge 18, 3) := by decide +kernel
theorem dX8_puff_234 : decode cX8_puff 234 = .ok (.aload_n 0, 1) := by decide +kernel
theorem dX8_puff_235 : decode cX8_puff 235 = .ok (.getfield 62, 3) := by decide +kernel
theorem dX8_puff_238 : decode cX8_puff 238 = .ok (.iload_n 2, 1) := by decide +kernel
theorem dX8_puff_239 : decode cX8_puff 239 = .ok (.dup2, 1) := by decide +kernel
theorem dX8_puff_240 : decode cX8_puff 240 = .ok (.iaload, 1) := by decide +kernel
theorem dX8_puff_241 : decode cX8_puff 241 = .ok (.aload_n 0, 1) := by decide +kernel
theorem dX8_puff_242 : decode cX8_puff 242 = .ok (.getfield 59, 3) := by decide +kernel
theorem dX8_puff_245 : decode cX8_puff 245 = .ok (.iload_n 2, 1) := by decide +kernel
theorem dX8_puff_246 : decode cX8_puff 246 = .ok (.iaload, 1) := by decide +kernel
theorem dX8_puff_247 : decode cX8_puff 247 = .ok (.iadd, 1) := by decide +kernel
theorem dX8_puff_248 : decode cX8_puff 248 = .ok (.iastore, 1) := by decide +kernel
theorem dX8_puff_249 : decode cX8_puff 249 = .ok (.iinc 2 1, 3) := by decide +kernel
theorem dX8_puff_252 : decode cX8_puff 252 = .ok (.goto (-203), 3) := by decide +kernel
theorem dX8_puff_255 : decode cX8_puff 255 = .ok (.iload_n 1, 1) := by decide +kernel
theorem dX8_puff_256 : decode cX8_puff 256 = .ok (.ireturn, 1) := by decide +kernel
set_option maxRecDepth 20000 in
theorem ggX8_drift_X8_in : GoodIn wsX8_drift wsX8_in := goodIn_r _ [9] (by decide +kernel) (by decide +kernel)
set_option maxRecDepth 20000 in
theorem gX8_drift_X8_in : GoodIn wsX8_drift (va_wsS RX8 102 yX8_in wsX8_in) := goodIn_app (goodIn_of _ (by decide +kernel)) ggX8_drift_X8_in
theorem dX8_drift_0 : decode cX8_drift 0 = .ok (.aload_n 0, 1) := by decide +kernel
theorem dX8_drift_1 : decode cX8_drift 1 = .ok (.iconst 0, 1) := by decide +kernel
theorem dX8_drift_2 : decode cX8_drift 2 = .ok (.putfield 95, 3) := by decide +kernel
theorem dX8_drift_5 : decode cX8_drift 5 = .ok (.iload_n 1, 1) := by decide +kernel
theorem dX8_drift_6 : decode cX8_drift 6 = .ok (.i2l, 1) := by decide +kernel
theorem dX8_drift_7 : decode cX8_drift 7 = .ok (.ldc2_w 145, 3) := by decide +kernel
theorem dX8_drift_10 : decode cX8_drift 10 = .ok (.ldc2_w 147, 3) := by decide +kernel
theorem dX8_drift_13 : decode cX8_drift 13 = .ok (.invokestatic 102, 3) := by decide +kernel
theorem dX8_drift_16 : decode cX8_drift 16 = .ok (.ifCond .ne 6, 3) := by decide +kernel
theorem dX8_drift_19 : decode cX8_drift 19 = .ok (.ldc 115, 2) := by decide +kernel
theorem dX8_drift_21 : decode cX8_drift 21 = .ok (.ireturn, 1) := by decide +kernel
theorem dX8_drift_22 : decode cX8_drift 22 = .ok (.aload_n 0, 1) := by decide +kernel
theorem dX8_drift_23 : decode cX8_drift 23 = .ok (.getfield 142, 3) := by decide +kernel
theorem dX8_drift_26 : decode cX8_drift 26 = .ok (.istore_n 2, 1) := by decide +kernel
theorem dX8_drift_27 : decode cX8_drift 27 = .ok (.aload_n 0, 1) := by decide +kernel
theorem dX8_drift_28 : decode cX8_drift 28 = .ok (.iload_n 1, 1) := by decide +kernel
theorem dX8_drift_29 : decode cX8_drift 29 = .ok (.putfield 142, 3) := by decide +kernel
theorem dX8_drift_32 : decode cX8_drift 32 = .ok (.iload_n 2, 1) := by decide +kernel
theorem dX8_drift_33 : decode cX8_drift 33 = .ok (.ireturn, 1) := by decide +kernel
theorem dX8_sight_0 : decode cX8_sight 0 = .ok (.aload_n 0, 1) := by decide +kernel
theorem dX8_sight_1 : decode cX8_sight 1 = .ok (.iconst 0, 1) := by decide +kernel
theorem dX8_sight_2 : decode cX8_sight 2 = .ok (.putfield 95, 3) := by decide +kernel
theorem dX8_sight_5 : decode cX8_sight 5 = .ok (.aload_n 0, 1) := by decide +kernel
theorem dX8_sight_6 : decode cX8_sight 6 = .ok (.getfield 138, 3) := by decide +kernel
theorem dX8_sight_9 : decode cX8_sight 9 = .ok (.lstore_n 1, 1) := by decide +kernel
theorem dX8_sight_10 : decode cX8_sight 10 = .ok (.aload_n 0, 1) := by decide +kernel
theorem dX8_sight_11 : decode cX8_sight 11 = .ok (.lconst 0, 1) := by decide +kernel
theorem dX8_sight_12 : decode cX8_sight 12 = .ok (.putfield 138, 3) := by decide +kernel
theorem dX8_sight_15 : decode cX8_sight 15 = .ok (.aload_n 0, 1) := by decide +kernel
theorem dX8_sight_16 : decode cX8_sight 16 = .ok (.aload_n 0, 1) := by decide +kernel
theorem dX8_sight_17 : decode cX8_sight 17 = .ok (.getfield 133, 3) := by decide +kernel
theorem dX8_sight_20 : decode cX8_sight 20 = .ok (.putfield 149, 3) := by decide +kernel
theorem dX8_sight_23 : decode cX8_sight 23 = .ok (.aload_n 0, 1) := by decide +kernel
theorem dX8_sight_24 : decode cX8_sight 24 = .ok (.dup, 1) := by decide +kernel
theorem dX8_sight_25 : decode cX8_sight 25 = .ok (.getfield 152, 3) := by decide +kernel
theorem dX8_sight_28 : decode cX8_sight 28 = .ok (.iconst 1, 1) := by decide +kernel
theorem dX8_sight_29 : decode cX8_sight 29 = .ok (.iadd, 1) := by decide +kernel
theorem dX8_sight_30 : decode cX8_sight 30 = .ok (.putfield 152, 3) := by decide +kernel
theorem dX8_sight_33 : decode cX8_sight 33 = .ok (.lload_n 1, 1) := by decide +kernel
theorem dX8_sight_34 : decode cX8_sight 34 = .ok (.lreturn, 1) := by decide +kernel
theorem dX8_now_0 : decode cX8_now 0 = .ok (.aload_n 0, 1) := by decide +kernel
theorem dX8_now_1 : decode cX8_now 1 = .ok (.iconst 0, 1) := by decide +kernel
theorem dX8_now_2 : decode cX8_now 2 = .ok (.putfield 95, 3) := by decide +kernel
theorem dX8_now_5 : decode cX8_now 5 = .ok (.aload_n 0, 1) := by decide +kernel
theorem dX8_now_6 : decode cX8_now 6 = .ok (.getfield 133, 3) := by decide +kernel
theorem dX8_now_9 : decode cX8_now 9 = .ok (.aload_n 0, 1) := by decide +kernel
theorem dX8_now_10 : decode cX8_now 10 = .ok (.getfield 149, 3) := by decide +kernel
theorem dX8_now_13 : decode cX8_now 13 = .ok (.isub, 1) := by decide +kernel
theorem dX8_now_14 : decode cX8_now 14 = .ok (.i2l, 1) := by decide +kernel
theorem dX8_now_15 : decode cX8_now 15 = .ok (.lstore_n 2, 1) := by decide +kernel
theorem dX8_now_16 : decode cX8_now 16 = .ok (.iload_n 1, 1) := by decide +kernel
theorem dX8_now_17 : decode cX8_now 17 = .ok (.ifCond .ne 11, 3) := by decide +kernel
theorem dX8_now_20 : decode cX8_now 20 = .ok (.aload_n 0, 1) := by decide +kernel
theorem dX8_now_21 : decode cX8_now 21 = .ok (.getfield 133, 3) := by decide +kernel
theorem dX8_now_24 : decode cX8_now 24 = .ok (.i2l, 1) := by decide +kernel
theorem dX8_now_25 : decode cX8_now 25 = .ok (.goto 57, 3) := by decide +kernel
theorem dX8_now_28 : decode cX8_now 28 = .ok (.iload_n 1, 1) := by decide +kernel
theorem dX8_now_29 : decode cX8_now 29 = .ok (.iconst 1, 1) := by decide +kernel
theorem dX8_now_30 : decode cX8_now 30 = .ok (.if_icmp .ne 10, 3) := by decide +kernel
theorem dX8_now_33 : decode cX8_now 33 = .ok (.aload_n 0, 1) := by decide +kernel
theorem dX8_now_34 : decode cX8_now 34 = .ok (.getfield 138, 3) := by decide +kernel
theorem dX8_now_37 : decode cX8_now 37 = .ok (.goto 45, 3) := by decide +kernel
theorem dX8_now_40 : decode cX8_now 40 = .ok (.iload_n 1, 1) := by decide +kernel
theorem dX8_now_41 : decode cX8_now 41 = .ok (.iconst 2, 1) := by decide +kernel
theorem dX8_now_42 : decode cX8_now 42 = .ok (.if_icmp .ne 11, 3) := by decide +kernel
theorem dX8_now_45 : decode cX8_now 45 = .ok (.ldc2_w 145, 3) := by decide +kernel
theorem dX8_now_48 : decode cX8_now 48 = .ok (.lload_n 2, 1) := by decide +kernel
theorem dX8_now_49 : decode cX8_now 49 = .ok (.lmul, 1) := by decide +kernel
theorem dX8_now_50 : decode cX8_now 50 = .ok (.goto 32, 3) := by decide +kernel
theorem dX8_now_53 : decode cX8_now 53 = .ok (.iload_n 1, 1) := by decide +kernel
theorem dX8_now_54 : decode cX8_now 54 = .ok (.iconst 3, 1) := by decide +kernel
theorem dX8_now_55 : decode cX8_now 55 = .ok (.if_icmp .ne 11, 3) := by decide +kernel
theorem dX8_now_58 : decode cX8_now 58 = .ok (.ldc2_w 147, 3) := by decide +kernel
theorem dX8_now_61 : decode cX8_now 61 = .ok (.lload_n 2, 1) := by decide +kernel
theorem dX8_now_62 : decode cX8_now 62 = .ok (.lmul, 1) := by decide +kernel
theorem dX8_now_63 : decode cX8_now 63 = .ok (.goto 19, 3) := by decide +kernel
theorem dX8_now_66 : decode cX8_now 66 = .ok (.iload_n 1, 1) := by decide +kernel
theorem dX8_now_67 : decode cX8_now 67 = .ok (.iconst 4, 1) := by decide +kernel
theorem dX8_now_68 : decode cX8_now 68 = .ok (.if_icmp .ne 11, 3) := by decide +kernel
theorem dX8_now_71 : decode cX8_now 71 = .ok (.aload_n 0, 1) := by decide +kernel
theorem dX8_now_72 : decode cX8_now 72 = .ok (.getfield 152, 3) := by decide +kernel
theorem dX8_now_75 : decode cX8_now 75 = .ok (.i2l, 1) := by decide +kernel
theorem dX8_now_76 : decode cX8_now 76 = .ok (.goto 6, 3) := by decide +kernel
theorem dX8_now_79 : decode cX8_now 79 = .ok (.ldc2_w 155, 3) := by decide +kernel
theorem dX8_now_82 : decode cX8_now 82 = .ok (.lreturn, 1) := by decide +kernel
set_option maxRecDepth 20000 in
theorem ggX8_look_X8_isDial : GoodIn wsX8_look wsX8_isDial := goodIn_r _ [10, 11, 12, 13, 9, 14, 15, 16, 17, 18, 19, 20, 21, 22, 23, 24, 25, 26, 27, 28, 29, 30, 31, 32, 33, 34, 35, 36, 37, 38, 39, 40, 41, 42, 43, 44, 45, 46, 47, 48, 49, 50, 51, 52, 53, 54, 55, 56, 57, 58, 59, 60, 61, 62] (by decide +kernel) (by decide +kernel)
set_option maxRecDepth 20000 in
theorem gX8_look_X8_isDial : GoodIn wsX8_look (wsV RX8 157 RX8 yX8_isDial wsX8_isDial) := goodIn_app (goodIn_of _ (by decide +kernel)) ggX8_look_X8_isDial
theorem dX8_look_0 : decode cX8_look 0 = .ok (.aload_n 0, 1) := by decide +kernel
theorem dX8_look_1 : decode cX8_look 1 = .ok (.iconst 0, 1) := by decide +kernel
theorem dX8_look_2 : decode cX8_look 2 = .ok (.putfield 95, 3) := by decide +kernel
theorem dX8_look_5 : decode cX8_look 5 = .ok (.aload_n 0, 1) := by decide +kernel
theorem dX8_look_6 : decode cX8_look 6 = .ok (.iload_n 1, 1) := by decide +kernel
theorem dX8_look_7 : decode cX8_look 7 = .ok (.invokevirtual 157, 3) := by decide +kernel
theorem dX8_look_10 : decode cX8_look 10 = .ok (.ifCond .ne 6, 3) := by decide +kernel
theorem dX8_look_13 : decode cX8_look 13 = .ok (.ldc 115, 2) := by decide +kernel
theorem dX8_look_15 : decode cX8_look 15 = .ok (.ireturn, 1) := by decide +kernel
theorem dX8_look_16 : decode cX8_look 16 = .ok (.aload_n 0, 1) := by decide +kernel
theorem dX8_look_17 : decode cX8_look 17 = .ok (.getfield 40, 3) := by decide +kernel
theorem dX8_look_20 : decode cX8_look 20 = .ok (.iload_n 1, 1) := by decide +kernel
theorem dX8_look_21 : decode cX8_look 21 = .ok (.aload_n 0, 1) := by decide +kernel
theorem dX8_look_22 : decode cX8_look 22 = .ok (.getfield 34, 3) := by decide +kernel
theorem dX8_look_25 : decode cX8_look 25 = .ok (.iload_n 1, 1) := by decide +kernel
theorem dX8_look_26 : decode cX8_look 26 = .ok (.iaload, 1) := by decide +kernel
theorem dX8_look_27 : decode cX8_look 27 = .ok (.iastore, 1) := by decide +kernel
theorem dX8_look_28 : decode cX8_look 28 = .ok (.aload_n 0, 1) := by decide +kernel
theorem dX8_look_29 : decode cX8_look 29 = .ok (.getfield 43, 3) := by decide +kernel
theorem dX8_look_32 : decode cX8_look 32 = .ok (.iload_n 1, 1) := by decide +kernel
theorem dX8_look_33 : decode cX8_look 33 = .ok (.iconst 0, 1) := by decide +kernel
theorem dX8_look_34 : decode cX8_look 34 = .ok (.iastore, 1) := by decide +kernel
theorem dX8_look_35 : decode cX8_look 35 = .ok (.aload_n 0, 1) := by decide +kernel
theorem dX8_look_36 : decode cX8_look 36 = .ok (.getfield 34, 3) := by decide +kernel
theorem dX8_look_39 : decode cX8_look 39 = .ok (.iload_n 1, 1) := by decide +kernel
theorem dX8_look_40 : decode cX8_look 40 = .ok (.iaload, 1) := by decide +kernel
theorem dX8_look_41 : decode cX8_look 41 = .ok (.ireturn, 1) := by decide +kernel
set_option maxRecDepth 20000 in
theorem ggX8_state_X8_isDial : GoodIn wsX8_state wsX8_isDial := goodIn_r _ [14, 15, 16, 17, 13, 18, 19, 20, 21, 22, 23, 24, 25, 26, 27, 28, 29, 30, 31, 32, 33, 34, 35, 36, 37, 38, 39, 40, 41, 42, 43, 44, 45, 46, 47, 48, 49, 50, 51, 52, 53, 54, 55, 56, 57, 58, 59, 60, 61, 62, 63, 64, 65, 66] (by decide +kernel) (by decide +kernel)
set_option maxRecDepth 20000 in
theorem gX8_state_X8_isDial : GoodIn wsX8_state (wsV RX8 157 RX8 yX8_isDial wsX8_isDial) := goodIn_app (goodIn_of _ (by decide +kernel)) ggX8_state_X8_isDial
set_option maxRecDepth 20000 in
theorem ggX8_state_X8_in : GoodIn wsX8_state wsX8_in := goodIn_r _ [18] (by decide +kernel) (by decide +kernel)
set_option maxRecDepth 20000 in
theorem gX8_state_X8_in : GoodIn wsX8_state (va_wsS RX8 102 yX8_in wsX8_in) := goodIn_app (goodIn_of _ (by decide +kernel)) ggX8_state_X8_in
theorem dX8_state_0 : decode cX8_state 0 = .ok (.aload_n 0, 1) := by decide +kernel
theorem dX8_state_1 : decode cX8_state 1 = .ok (.iconst 0, 1) := by decide +kernel
theorem dX8_state_2 : decode cX8_state 2 = .ok (.putfield 95, 3) := by decide +kernel
theorem dX8_state_5 : decode cX8_state 5 = .ok (.aload_n 0, 1) := by decide +kernel
theorem dX8_state_6 : decode cX8_state 6 = .ok (.iload_n 1, 1) := by decide +kernel
theorem dX8_state_7 : decode cX8_state 7 = .ok (.invokevirtual 157, 3) := by decide +kernel
theorem dX8_state_10 : decode cX8_state 10 = .ok (.ifCond .eq 15, 3) := by decide +kernel
theorem dX8_state_13 : decode cX8_state 13 = .ok (.iload_n 2, 1) := by decide +kernel
theorem dX8_state_14 : decode cX8_state 14 = .ok (.i2l, 1) := by decide +kernel
theorem dX8_state_15 : decode cX8_state 15 = .ok (.lconst 0, 1) := by decide +kernel
theorem dX8_state_16 : decode cX8_state 16 = .ok (.ldc2_w 147, 3) := by decide +kernel
theorem dX8_state_19 : decode cX8_state 19 = .ok (.invokestatic 102, 3) := by decide +kernel
theorem dX8_state_22 : decode cX8_state 22 = .ok (.ifCond .ne 6, 3) := by decide +kernel
theorem dX8_state_25 : decode cX8_state 25 = .ok (.ldc 115, 2) := by decide +kernel
theorem dX8_state_27 : decode cX8_state 27 = .ok (.ireturn, 1) := by decide +kernel
theorem dX8_state_28 : decode cX8_state 28 = .ok (.iload_n 2, 1) := by decide +kernel
theorem dX8_state_29 : decode cX8_state 29 = .ok (.ifCond .ne 12, 3) := by decide +kernel
theorem dX8_state_32 : decode cX8_state 32 = .ok (.aload_n 0, 1) := by decide +kernel
theorem dX8_state_33 : decode cX8_state 33 = .ok (.getfield 34, 3) := by decide +kernel
theorem dX8_state_36 : decode cX8_state 36 = .ok (.iload_n 1, 1) := by decide +kernel
theorem dX8_state_37 : decode cX8_state 37 = .ok (.iaload, 1) := by decide +kernel
theorem dX8_state_38 : decode cX8_state 38 = .ok (.goto 72, 3) := by decide +kernel
