set_option maxRecDepth 20000 in
theorem ggX5_strips_X5_oldOf : GoodIn wsX5_strips wsX5_oldOf := goodIn_r _ [8, 9, 14, 15, 16, 17, 18, 19, 20, 21, 22, 23, 24, 25, 26, 27, 28, 29, 30, 31, 32, 33, 34, 35, 36, 37, 38, 39, 40, 41, 42, 43, 44, 45, 46, 47, 48, 49, 50, 51, 52, 53, 54, 55] (by decide +kernel) (by decide +kernel)
set_option maxRecDepth 20000 in
theorem gX5_strips_X5_oldOf : GoodIn wsX5_strips (wsV RX5 236 RX5 yX5_oldOf wsX5_oldOf) := goodIn_app (goodIn_of _ (by decide +kernel)) ggX5_strips_X5_oldOf
set_option maxRecDepth 20000 in
theorem ggX5_strips_X5_links : GoodIn wsX5_strips wsX5_links := goodIn_r _ [13, 3, 14, 15, 16, 17, 18, 19, 20, 21, 22, 23, 24, 25, 26, 27, 28, 29, 30, 31, 32, 33, 34, 35, 36, 37, 38, 39, 40, 41, 42, 43, 44, 45, 46, 47, 48, 49, 50, 51, 52, 53, 54, 55] (by decide +kernel) (by decide +kernel)
set_option maxRecDepth 20000 in
theorem gX5_strips_X5_links : GoodIn wsX5_strips (wsV RX5 172 RX5 yX5_links wsX5_links) := goodIn_app (goodIn_of _ (by decide +kernel)) ggX5_strips_X5_links
theorem dX5_strips_0 : decode cX5_strips 0 = .ok (.iconst 0, 1) := by decide +kernel
theorem dX5_strips_1 : decode cX5_strips 1 = .ok (.istore_n 1, 1) := by decide +kernel
theorem dX5_strips_2 : decode cX5_strips 2 = .ok (.iload_n 1, 1) := by decide +kernel
theorem dX5_strips_3 : decode cX5_strips 3 = .ok (.iconst 4, 1) := by decide +kernel
theorem dX5_strips_4 : decode cX5_strips 4 = .ok (.if_icmp .ge 16, 3) := by decide +kernel
theorem dX5_strips_7 : decode cX5_strips 7 = .ok (.aload_n 0, 1) := by decide +kernel
theorem dX5_strips_8 : decode cX5_strips 8 = .ok (.getfield 49, 3) := by decide +kernel
theorem dX5_strips_11 : decode cX5_strips 11 = .ok (.iload_n 1, 1) := by decide +kernel
theorem dX5_strips_12 : decode cX5_strips 12 = .ok (.iconst 0, 1) := by decide +kernel
theorem dX5_strips_13 : decode cX5_strips 13 = .ok (.bastore, 1) := by decide +kernel
theorem dX5_strips_14 : decode cX5_strips 14 = .ok (.iinc 1 1, 3) := by decide +kernel
theorem dX5_strips_17 : decode cX5_strips 17 = .ok (.goto (-15), 3) := by decide +kernel
theorem dX5_strips_20 : decode cX5_strips 20 = .ok (.iconst 0, 1) := by decide +kernel
theorem dX5_strips_21 : decode cX5_strips 21 = .ok (.istore_n 1, 1) := by decide +kernel
theorem dX5_strips_22 : decode cX5_strips 22 = .ok (.iload_n 1, 1) := by decide +kernel
theorem dX5_strips_23 : decode cX5_strips 23 = .ok (.iconst 4, 1) := by decide +kernel
theorem dX5_strips_24 : decode cX5_strips 24 = .ok (.if_icmp .ge 106, 3) := by decide +kernel
theorem dX5_strips_27 : decode cX5_strips 27 = .ok (.aload_n 0, 1) := by decide +kernel
theorem dX5_strips_28 : decode cX5_strips 28 = .ok (.getfield 49, 3) := by decide +kernel
theorem dX5_strips_31 : decode cX5_strips 31 = .ok (.iload_n 1, 1) := by decide +kernel
theorem dX5_strips_32 : decode cX5_strips 32 = .ok (.baload, 1) := by decide +kernel
theorem dX5_strips_33 : decode cX5_strips 33 = .ok (.ifCond .ne 91, 3) := by decide +kernel
theorem dX5_strips_36 : decode cX5_strips 36 = .ok (.aload_n 0, 1) := by decide +kernel
theorem dX5_strips_37 : decode cX5_strips 37 = .ok (.aload_n 0, 1) := by decide +kernel
theorem dX5_strips_38 : decode cX5_strips 38 = .ok (.getfield 43, 3) := by decide +kernel
theorem dX5_strips_41 : decode cX5_strips 41 = .ok (.iload_n 1, 1) := by decide +kernel
theorem dX5_strips_42 : decode cX5_strips 42 = .ok (.iaload, 1) := by decide +kernel
theorem dX5_strips_43 : decode cX5_strips 43 = .ok (.invokevirtual 236, 3) := by decide +kernel
theorem dX5_strips_46 : decode cX5_strips 46 = .ok (.iconst (-1), 1) := by decide +kernel
theorem dX5_strips_47 : decode cX5_strips 47 = .ok (.if_icmp .ne 77, 3) := by decide +kernel
theorem dX5_strips_50 : decode cX5_strips 50 = .ok (.iload_n 1, 1) := by decide +kernel
theorem dX5_strips_51 : decode cX5_strips 51 = .ok (.istore_n 2, 1) := by decide +kernel
theorem dX5_strips_52 : decode cX5_strips 52 = .ok (.iconst (-1), 1) := by decide +kernel
theorem dX5_strips_53 : decode cX5_strips 53 = .ok (.istore_n 3, 1) := by decide +kernel
theorem dX5_strips_54 : decode cX5_strips 54 = .ok (.iload_n 3, 1) := by decide +kernel
theorem dX5_strips_55 : decode cX5_strips 55 = .ok (.iconst (-1), 1) := by decide +kernel
theorem dX5_strips_56 : decode cX5_strips 56 = .ok (.if_icmp .ne 57, 3) := by decide +kernel
theorem dX5_strips_59 : decode cX5_strips 59 = .ok (.iload_n 2, 1) := by decide +kernel
theorem dX5_strips_60 : decode cX5_strips 60 = .ok (.iconst 2, 1) := by decide +kernel
theorem dX5_strips_61 : decode cX5_strips 61 = .ok (.iadd, 1) := by decide +kernel
theorem dX5_strips_62 : decode cX5_strips 62 = .ok (.iconst 4, 1) := by decide +kernel
theorem dX5_strips_63 : decode cX5_strips 63 = .ok (.irem, 1) := by decide +kernel
theorem dX5_strips_64 : decode cX5_strips 64 = .ok (.istore 4, 2) := by decide +kernel
theorem dX5_strips_66 : decode cX5_strips 66 = .ok (.aload_n 0, 1) := by decide +kernel
theorem dX5_strips_67 : decode cX5_strips 67 = .ok (.getfield 49, 3) := by decide +kernel
theorem dX5_strips_70 : decode cX5_strips 70 = .ok (.iload_n 2, 1) := by decide +kernel
theorem dX5_strips_71 : decode cX5_strips 71 = .ok (.iconst 1, 1) := by decide +kernel
theorem dX5_strips_72 : decode cX5_strips 72 = .ok (.bastore, 1) := by decide +kernel
theorem dX5_strips_73 : decode cX5_strips 73 = .ok (.aload_n 0, 1) := by decide +kernel
theorem dX5_strips_74 : decode cX5_strips 74 = .ok (.getfield 49, 3) := by decide +kernel
theorem dX5_strips_77 : decode cX5_strips 77 = .ok (.iload 4, 2) := by decide +kernel
theorem dX5_strips_79 : decode cX5_strips 79 = .ok (.iconst 1, 1) := by decide +kernel
theorem dX5_strips_80 : decode cX5_strips 80 = .ok (.bastore, 1) := by decide +kernel
theorem dX5_strips_81 : decode cX5_strips 81 = .ok (.aload_n 0, 1) := by decide +kernel
theorem dX5_strips_82 : decode cX5_strips 82 = .ok (.aload_n 0, 1) := by decide +kernel
theorem dX5_strips_83 : decode cX5_strips 83 = .ok (.getfield 43, 3) := by decide +kernel
theorem dX5_strips_86 : decode cX5_strips 86 = .ok (.iload 4, 2) := by decide +kernel
theorem dX5_strips_88 : decode cX5_strips 88 = .ok (.iaload, 1) := by decide +kernel
theorem dX5_strips_89 : decode cX5_strips 89 = .ok (.invokevirtual 236, 3) := by decide +kernel
theorem dX5_strips_92 : decode cX5_strips 92 = .ok (.istore_n 2, 1) := by decide +kernel
theorem dX5_strips_93 : decode cX5_strips 93 = .ok (.iload_n 2, 1) := by decide +kernel
theorem dX5_strips_94 : decode cX5_strips 94 = .ok (.iconst (-1), 1) := by decide +kernel
theorem dX5_strips_95 : decode cX5_strips 95 = .ok (.if_icmp .ne 13, 3) := by decide +kernel
theorem dX5_strips_98 : decode cX5_strips 98 = .ok (.aload_n 0, 1) := by decide +kernel
theorem dX5_strips_99 : decode cX5_strips 99 = .ok (.getfield 43, 3) := by decide +kernel
theorem dX5_strips_102 : decode cX5_strips 102 = .ok (.iload 4, 2) := by decide +kernel
theorem dX5_strips_104 : decode cX5_strips 104 = .ok (.iaload, 1) := by decide +kernel
theorem dX5_strips_105 : decode cX5_strips 105 = .ok (.goto 4, 3) := by decide +kernel
theorem dX5_strips_108 : decode cX5_strips 108 = .ok (.iconst (-1), 1) := by decide +kernel
theorem dX5_strips_109 : decode cX5_strips 109 = .ok (.istore_n 3, 1) := by decide +kernel
theorem dX5_strips_110 : decode cX5_strips 110 = .ok (.goto (-56), 3) := by decide +kernel
theorem dX5_strips_113 : decode cX5_strips 113 = .ok (.aload_n 0, 1) := by decide +kernel
theorem dX5_strips_114 : decode cX5_strips 114 = .ok (.aload_n 0, 1) := by decide +kernel
theorem dX5_strips_115 : decode cX5_strips 115 = .ok (.getfield 43, 3) := by decide +kernel
theorem dX5_strips_118 : decode cX5_strips 118 = .ok (.iload_n 1, 1) := by decide +kernel
theorem dX5_strips_119 : decode cX5_strips 119 = .ok (.iaload, 1) := by decide +kernel
theorem dX5_strips_120 : decode cX5_strips 120 = .ok (.iload_n 3, 1) := by decide +kernel
theorem dX5_strips_121 : decode cX5_strips 121 = .ok (.invokevirtual 172, 3) := by decide +kernel
theorem dX5_strips_124 : decode cX5_strips 124 = .ok (.iinc 1 1, 3) := by decide +kernel
theorem dX5_strips_127 : decode cX5_strips 127 = .ok (.goto (-105), 3) := by decide +kernel
theorem dX5_strips_130 : decode cX5_strips 130 = .ok (.iconst 0, 1) := by decide +kernel
theorem dX5_strips_131 : decode cX5_strips 131 = .ok (.istore_n 1, 1) := by decide +kernel
theorem dX5_strips_132 : decode cX5_strips 132 = .ok (.iload_n 1, 1) := by decide +kernel
theorem dX5_strips_133 : decode cX5_strips 133 = .ok (.iconst 2, 1) := by decide +kernel
theorem dX5_strips_134 : decode cX5_strips 134 = .ok (.if_icmp .ge 74, 3) := by decide +kernel
theorem dX5_strips_137 : decode cX5_strips 137 = .ok (.aload_n 0, 1) := by decide +kernel
theorem dX5_strips_138 : decode cX5_strips 138 = .ok (.getfield 49, 3) := by decide +kernel
theorem dX5_strips_141 : decode cX5_strips 141 = .ok (.iload_n 1, 1) := by decide +kernel
theorem dX5_strips_142 : decode cX5_strips 142 = .ok (.baload, 1) := by decide +kernel
theorem dX5_strips_143 : decode cX5_strips 143 = .ok (.ifCond .ne 59, 3) := by decide +kernel
theorem dX5_strips_146 : decode cX5_strips 146 = .ok (.aload_n 0, 1) := by decide +kernel
theorem dX5_strips_147 : decode cX5_strips 147 = .ok (.getfield 7, 3) := by decide +kernel
theorem dX5_strips_150 : decode cX5_strips 150 = .ok (.bipush 7, 2) := by decide +kernel
theorem dX5_strips_152 : decode cX5_strips 152 = .ok (.dup2, 1) := by decide +kernel
theorem dX5_strips_153 : decode cX5_strips 153 = .ok (.iaload, 1) := by decide +kernel
theorem dX5_strips_154 : decode cX5_strips 154 = .ok (.iconst 1, 1) := by decide +kernel
theorem dX5_strips_155 : decode cX5_strips 155 = .ok (.iadd, 1) := by decide +kernel
theorem dX5_strips_156 : decode cX5_strips 156 = .ok (.iastore, 1) := by decide +kernel
theorem dX5_strips_157 : decode cX5_strips 157 = .ok (.iload_n 1, 1) := by decide +kernel
theorem dX5_strips_158 : decode cX5_strips 158 = .ok (.istore_n 2, 1) := by decide +kernel
theorem dX5_strips_159 : decode cX5_strips 159 = .ok (.aload_n 0, 1) := by decide +kernel
theorem dX5_strips_160 : decode cX5_strips 160 = .ok (.getfield 49, 3) := by decide +kernel
theorem dX5_strips_163 : decode cX5_strips 163 = .ok (.iload_n 2, 1) := by decide +kernel
theorem dX5_strips_164 : decode cX5_strips 164 = .ok (.baload, 1) := by decide +kernel
theorem dX5_strips_165 : decode cX5_strips 165 = .ok (.ifCond .ne 37, 3) := by decide +kernel
theorem dX5_strips_168 : decode cX5_strips 168 = .ok (.iload_n 2, 1) := by decide +kernel
theorem dX5_strips_169 : decode cX5_strips 169 = .ok (.iconst 2, 1) := by decide +kernel
theorem dX5_strips_170 : decode cX5_strips 170 = .ok (.iadd, 1) := by decide +kernel
theorem dX5_strips_171 : decode cX5_strips 171 = .ok (.iconst 4, 1) := by decide +kernel
theorem dX5_strips_172 : decode cX5_strips 172 = .ok (.irem, 1) := by decide +kernel
theorem dX5_strips_173 : decode cX5_strips 173 = .ok (.istore_n 3, 1) := by decide +kernel
theorem dX5_strips_174 : decode cX5_strips 174 = .ok (.aload_n 0, 1) := by decide +kernel
theorem dX5_strips_175 : decode cX5_strips 175 = .ok (.getfield 49, 3) := by decide +kernel
theorem dX5_strips_178 : decode cX5_strips 178 = .ok (.iload_n 2, 1) := by decide +kernel
theorem dX5_strips_179 : decode cX5_strips 179 = .ok (.iconst 1, 1) := by decide +kernel
theorem dX5_strips_180 : decode cX5_strips 180 = .ok (.bastore, 1) := by decide +kernel
theorem dX5_strips_181 : decode cX5_strips 181 = .ok (.aload_n 0, 1) := by decide +kernel
theorem dX5_strips_182 : decode cX5_strips 182 = .ok (.getfield 49, 3) := by decide +kernel
theorem dX5_strips_185 : decode cX5_strips 185 = .ok (.iload_n 3, 1) := by decide +kernel
theorem dX5_strips_186 : decode cX5_strips 186 = .ok (.iconst 1, 1) := by decide +kernel
theorem dX5_strips_187 : decode cX5_strips 187 = .ok (.bastore, 1) := by decide +kernel
theorem dX5_strips_188 : decode cX5_strips 188 = .ok (.aload_n 0, 1) := by decide +kernel
theorem dX5_strips_189 : decode cX5_strips 189 = .ok (.aload_n 0, 1) := by decide +kernel
theorem dX5_strips_190 : decode cX5_strips 190 = .ok (.getfield 43, 3) := by decide +kernel
theorem dX5_strips_193 : decode cX5_strips 193 = .ok (.iload_n 3, 1) := by decide +kernel
theorem dX5_strips_194 : decode cX5_strips 194 = .ok (.iaload, 1) := by decide +kernel
theorem dX5_strips_195 : decode cX5_strips 195 = .ok (.invokevirtual 236, 3) := by decide +kernel
theorem dX5_strips_198 : decode cX5_strips 198 = .ok (.istore_n 2, 1) := by decide +kernel
theorem dX5_strips_199 : decode cX5_strips 199 = .ok (.goto (-40), 3) := by decide +kernel
theorem dX5_strips_202 : decode cX5_strips 202 = .ok (.iinc 1 1, 3) := by decide +kernel
theorem dX5_strips_205 : decode cX5_strips 205 = .ok (.goto (-73), 3) := by decide +kernel
theorem dX5_strips_208 : decode cX5_strips 208 = .ok (.return_, 1) := by decide +kernel
set_option maxRecDepth 20000 in
theorem ggX5_chosen_X5_pairs : GoodIn wsX5_chosen wsX5_pairs := goodIn_r _ [7, 8, 9, 10, 6, 11, 12, 13, 14, 15, 16, 17, 18, 19, 20, 21, 22, 23, 24, 25, 26, 27, 28, 29, 30, 31, 32, 33, 34, 35, 36, 37, 38, 39, 40, 41, 42, 43, 44, 45, 46, 47, 48, 49, 50, 51, 52, 53, 54, 55, 56, 57, 58, 59, 60, 61, 62, 63, 64, 65, 66, 67, 68, 69, 70, 71, 72, 73, 74, 75, 76, 77, 78, 79, 80, 81, 82, 83, 84, 85] (by decide +kernel) (by decide +kernel)
set_option maxRecDepth 20000 in
theorem gX5_chosen_X5_pairs : GoodIn wsX5_chosen (wsV RX5 248 RX5 yX5_pairs wsX5_pairs) := goodIn_app (goodIn_of _ (by decide +kernel)) ggX5_chosen_X5_pairs
set_option maxRecDepth 20000 in
theorem ggX5_chosen_X5_isPair : GoodIn wsX5_chosen wsX5_isPair := goodIn_r _ [11, 12, 13, 14, 6, 15, 16, 17, 18, 19, 20, 21, 22, 23, 24, 25, 26, 27, 44, 45, 46, 47, 48, 49, 50, 51, 52, 53, 54, 55, 56, 57, 58, 59, 60, 61, 62, 63, 64, 65, 66, 67, 68, 69, 70, 71, 72, 73, 74, 75, 76, 77, 78, 79, 80, 81, 82, 83, 84, 85] (by decide +kernel) (by decide +kernel)
set_option maxRecDepth 20000 in
theorem gX5_chosen_X5_isPair : GoodIn wsX5_chosen (wsV RX5 230 RX5 yX5_isPair wsX5_isPair) := goodIn_app (goodIn_of _ (by decide +kernel)) ggX5_chosen_X5_isPair
set_option maxRecDepth 20000 in
theorem ggX5_chosen_X5_canReduce : GoodIn wsX5_chosen wsX5_canReduce := goodIn_r _ [31, 32, 33, 34, 6, 35, 36, 37, 38, 39, 16, 20, 21, 22, 23, 24, 25, 26, 27, 40, 41, 42, 43, 44, 45, 46, 47, 48, 49, 50, 51, 52, 53, 54, 55, 56, 57, 58, 59, 60, 61, 62, 63, 64, 65, 66, 67, 68, 69, 70, 71, 72, 73, 74, 75, 76, 77, 78, 79, 80, 81, 82, 83, 84, 85] (by decide +kernel) (by decide +kernel)
set_option maxRecDepth 20000 in
theorem gX5_chosen_X5_canReduce : GoodIn wsX5_chosen (wsV RX5 233 RX5 yX5_canReduce wsX5_canReduce) := goodIn_app (goodIn_of _ (by decide +kernel)) ggX5_chosen_X5_canReduce
theorem dX5_chosen_0 : decode cX5_chosen 0 = .ok (.aload_n 0, 1) := by decide +kernel
theorem dX5_chosen_1 : decode cX5_chosen 1 = .ok (.iconst 1, 1) := by decide +kernel
theorem dX5_chosen_2 : decode cX5_chosen 2 = .ok (.invokevirtual 248, 3) := by decide +kernel
theorem dX5_chosen_5 : decode cX5_chosen 5 = .ok (.istore_n 2, 1) := by decide +kernel
theorem dX5_chosen_6 : decode cX5_chosen 6 = .ok (.iload_n 2, 1) := by decide +kernel
theorem dX5_chosen_7 : decode cX5_chosen 7 = .ok (.ifCond .ne 5, 3) := by decide +kernel
theorem dX5_chosen_10 : decode cX5_chosen 10 = .ok (.iconst (-1), 1) := by decide +kernel
theorem dX5_chosen_11 : decode cX5_chosen 11 = .ok (.ireturn, 1) := by decide +kernel
theorem dX5_chosen_12 : decode cX5_chosen 12 = .ok (.iconst 0, 1) := by decide +kernel
theorem dX5_chosen_13 : decode cX5_chosen 13 = .ok (.istore_n 3, 1) := by decide +kernel
theorem dX5_chosen_14 : decode cX5_chosen 14 = .ok (.iload_n 1, 1) := by decide +kernel
theorem dX5_chosen_15 : decode cX5_chosen 15 = .ok (.iconst 2, 1) := by decide +kernel
theorem dX5_chosen_16 : decode cX5_chosen 16 = .ok (.if_icmp .ne 28, 3) := by decide +kernel
theorem dX5_chosen_19 : decode cX5_chosen 19 = .ok (.aload_n 0, 1) := by decide +kernel
theorem dX5_chosen_20 : decode cX5_chosen 20 = .ok (.aload_n 0, 1) := by decide +kernel
theorem dX5_chosen_21 : decode cX5_chosen 21 = .ok (.getfield 252, 3) := by decide +kernel
theorem dX5_chosen_24 : decode cX5_chosen 24 = .ok (.ldc 255, 2) := by decide +kernel
theorem dX5_chosen_26 : decode cX5_chosen 26 = .ok (.imul, 1) := by decide +kernel
theorem dX5_chosen_27 : decode cX5_chosen 27 = .ok (.sipush 12345, 3) := by decide +kernel
theorem dX5_chosen_30 : decode cX5_chosen 30 = .ok (.iadd, 1) := by decide +kernel
theorem dX5_chosen_31 : decode cX5_chosen 31 = .ok (.putfield 252, 3) := by decide +kernel
theorem dX5_chosen_34 : decode cX5_chosen 34 = .ok (.aload_n 0, 1) := by decide +kernel
theorem dX5_chosen_35 : decode cX5_chosen 35 = .ok (.getfield 252, 3) := by decide +kernel
theorem dX5_chosen_38 : decode cX5_chosen 38 = .ok (.bipush 16, 2) := by decide +kernel
theorem dX5_chosen_40 : decode cX5_chosen 40 = .ok (.iushr, 1) := by decide +kernel
theorem dX5_chosen_41 : decode cX5_chosen 41 = .ok (.iload_n 2, 1) := by decide +kernel
theorem dX5_chosen_42 : decode cX5_chosen 42 = .ok (.irem, 1) := by decide +kernel
theorem dX5_chosen_43 : decode cX5_chosen 43 = .ok (.istore_n 3, 1) := by decide +kernel
theorem dX5_chosen_44 : decode cX5_chosen 44 = .ok (.iload_n 1, 1) := by decide +kernel
theorem dX5_chosen_45 : decode cX5_chosen 45 = .ok (.iconst 1, 1) := by decide +kernel
theorem dX5_chosen_46 : decode cX5_chosen 46 = .ok (.if_icmp .ne 7, 3) := by decide +kernel
theorem dX5_chosen_49 : decode cX5_chosen 49 = .ok (.iload_n 2, 1) := by decide +kernel
theorem dX5_chosen_50 : decode cX5_chosen 50 = .ok (.iconst 1, 1) := by decide +kernel
theorem dX5_chosen_51 : decode cX5_chosen 51 = .ok (.isub, 1) := by decide +kernel
theorem dX5_chosen_52 : decode cX5_chosen 52 = .ok (.istore_n 3, 1) := by decide +kernel
theorem dX5_chosen_53 : decode cX5_chosen 53 = .ok (.iconst 0, 1) := by decide +kernel
theorem dX5_chosen_54 : decode cX5_chosen 54 = .ok (.istore 4, 2) := by decide +kernel
theorem dX5_chosen_56 : decode cX5_chosen 56 = .ok (.aload_n 0, 1) := by decide +kernel
theorem dX5_chosen_57 : decode cX5_chosen 57 = .ok (.iload 4, 2) := by decide +kernel
theorem dX5_chosen_59 : decode cX5_chosen 59 = .ok (.invokevirtual 230, 3) := by decide +kernel
theorem dX5_chosen_62 : decode cX5_chosen 62 = .ok (.ifCond .eq 16, 3) := by decide +kernel
theorem dX5_chosen_65 : decode cX5_chosen 65 = .ok (.aload_n 0, 1) := by decide +kernel
theorem dX5_chosen_66 : decode cX5_chosen 66 = .ok (.iload 4, 2) := by decide +kernel
theorem dX5_chosen_68 : decode cX5_chosen 68 = .ok (.invokevirtual 233, 3) := by decide +kernel
theorem dX5_chosen_71 : decode cX5_chosen 71 = .ok (.ifCond .eq 7, 3) := by decide +kernel
theorem dX5_chosen_74 : decode cX5_chosen 74 = .ok (.iload_n 3, 1) := by decide +kernel
theorem dX5_chosen_75 : decode cX5_chosen 75 = .ok (.ifCond .le 35, 3) := by decide +kernel
theorem dX5_chosen_78 : decode cX5_chosen 78 = .ok (.iload_n 3, 1) := by decide +kernel
theorem dX5_chosen_79 : decode cX5_chosen 79 = .ok (.aload_n 0, 1) := by decide +kernel
theorem dX5_chosen_80 : decode cX5_chosen 80 = .ok (.iload 4, 2) := by decide +kernel
theorem dX5_chosen_82 : decode cX5_chosen 82 = .ok (.invokevirtual 230, 3) := by decide +kernel
theorem dX5_chosen_85 : decode cX5_chosen 85 = .ok (.ifCond .eq 16, 3) := by decide +kernel
theorem dX5_chosen_88 : decode cX5_chosen 88 = .ok (.aload_n 0, 1) := by decide +kernel
theorem dX5_chosen_89 : decode cX5_chosen 89 = .ok (.iload 4, 2) := by decide +kernel
theorem dX5_chosen_91 : decode cX5_chosen 91 = .ok (.invokevirtual 233, 3) := by decide +kernel
theorem dX5_chosen_94 : decode cX5_chosen 94 = .ok (.ifCond .eq 7, 3) := by decide +kernel
theorem dX5_chosen_97 : decode cX5_chosen 97 = .ok (.iconst 1, 1) := by decide +kernel
theorem dX5_chosen_98 : decode cX5_chosen 98 = .ok (.goto 4, 3) := by decide +kernel
theorem dX5_chosen_101 : decode cX5_chosen 101 = .ok (.iconst 0, 1) := by decide +kernel
theorem dX5_chosen_102 : decode cX5_chosen 102 = .ok (.isub, 1) := by decide +kernel
theorem dX5_chosen_103 : decode cX5_chosen 103 = .ok (.istore_n 3, 1) := by decide +kernel
theorem dX5_chosen_104 : decode cX5_chosen 104 = .ok (.iinc 4 1, 3) := by decide +kernel
theorem dX5_chosen_107 : decode cX5_chosen 107 = .ok (.goto (-51), 3) := by decide +kernel
theorem dX5_chosen_110 : decode cX5_chosen 110 = .ok (.iload 4, 2) := by decide +kernel
theorem dX5_chosen_112 : decode cX5_chosen 112 = .ok (.ireturn, 1) := by decide +kernel
set_option maxRecDepth 20000 in
theorem ggX5_steps_X5_chosen : GoodIn wsX5_steps wsX5_chosen := goodIn_r _ [8, 1, 9, 10, 11, 12, 7, 13, 14, 15, 16, 17, 18, 19, 20, 21, 2, 22, 23, 24, 25, 26, 27, 28, 29, 30, 31, 32, 33, 34, 35, 36, 37, 38, 39, 40, 41, 42, 43, 44, 45, 46, 47, 48, 81, 82, 83, 84, 85, 86, 87, 88, 89, 90, 91, 92, 93, 94, 95, 96, 97, 98, 99, 100, 101, 102, 103, 104, 105, 106, 107, 108, 109, 110, 111, 112, 113, 114, 115, 116, 117, 118, 119, 120, 121, 122] (by decide +kernel) (by decide +kernel)
set_option maxRecDepth 20000 in
theorem gX5_steps_X5_chosen : GoodIn wsX5_steps (wsV RX5 259 RX5 yX5_chosen wsX5_chosen) := goodIn_app (goodIn_of _ (by decide +kernel)) ggX5_steps_X5_chosen
set_option maxRecDepth 20000 in
theorem ggX5_steps_X5_reduces : GoodIn wsX5_steps wsX5_reduces := goodIn_r _ [52, 2, 53, 54, 55, 25, 26, 27, 7, 28, 29, 30, 31, 32, 37, 38, 39, 40, 41, 42, 43, 44, 56, 57, 58, 59, 60, 61, 62, 63, 64, 65, 66, 67, 68, 69, 70, 71, 72, 73, 74, 75, 76, 77, 78, 79, 80, 81, 82, 83, 84, 85, 86, 87, 88, 89, 90, 91, 92, 93, 94, 95, 96, 97, 98, 99, 100, 101, 102, 103, 104, 105, 106, 107, 108, 109, 110, 111, 112, 113, 114, 115, 116, 117, 118, 119, 120, 121, 122] (by decide +kernel) (by decide +kernel)
set_option maxRecDepth 20000 in
theorem gX5_steps_X5_reduces : GoodIn wsX5_steps (wsV RX5 262 RX5 yX5_reduces wsX5_reduces) := goodIn_app (goodIn_of _ (by decide +kernel)) ggX5_steps_X5_reduces
theorem dX5_steps_0 : decode cX5_steps 0 = .ok (.aload_n 0, 1) := by decide +kernel
theorem dX5_steps_1 : decode cX5_steps 1 = .ok (.iload_n 3, 1) := by decide +kernel
theorem dX5_steps_2 : decode cX5_steps 2 = .ok (.putfield 252, 3) := by decide +kernel
theorem dX5_steps_5 : decode cX5_steps 5 = .ok (.aload_n 0, 1) := by decide +kernel
theorem dX5_steps_6 : decode cX5_steps 6 = .ok (.aload_n 0, 1) := by decide +kernel
theorem dX5_steps_7 : decode cX5_steps 7 = .ok (.getfield 7, 3) := by decide +kernel
theorem dX5_steps_10 : decode cX5_steps 10 = .ok (.iconst 1, 1) := by decide +kernel
theorem dX5_steps_11 : decode cX5_steps 11 = .ok (.iaload, 1) := by decide +kernel
theorem dX5_steps_12 : decode cX5_steps 12 = .ok (.putfield 256, 3) := by decide +kernel
theorem dX5_steps_15 : decode cX5_steps 15 = .ok (.iconst 0, 1) := by decide +kernel
theorem dX5_steps_16 : decode cX5_steps 16 = .ok (.istore 4, 2) := by decide +kernel
theorem dX5_steps_18 : decode cX5_steps 18 = .ok (.iload 4, 2) := by decide +kernel
theorem dX5_steps_20 : decode cX5_steps 20 = .ok (.iload_n 2, 1) := by decide +kernel
theorem dX5_steps_21 : decode cX5_steps 21 = .ok (.if_icmp .ge 61, 3) := by decide +kernel
theorem dX5_steps_24 : decode cX5_steps 24 = .ok (.aload_n 0, 1) := by decide +kernel
theorem dX5_steps_25 : decode cX5_steps 25 = .ok (.iload_n 1, 1) := by decide +kernel
theorem dX5_steps_26 : decode cX5_steps 26 = .ok (.invokevirtual 259, 3) := by decide +kernel
theorem dX5_steps_29 : decode cX5_steps 29 = .ok (.istore 5, 2) := by decide +kernel
theorem dX5_steps_31 : decode cX5_steps 31 = .ok (.iload 5, 2) := by decide +kernel
theorem dX5_steps_33 : decode cX5_steps 33 = .ok (.iconst (-1), 1) := by decide +kernel
theorem dX5_steps_34 : decode cX5_steps 34 = .ok (.if_icmp .ne 6, 3) := by decide +kernel
theorem dX5_steps_37 : decode cX5_steps 37 = .ok (.iload 4, 2) := by decide +kernel
theorem dX5_steps_39 : decode cX5_steps 39 = .ok (.ireturn, 1) := by decide +kernel
theorem dX5_steps_40 : decode cX5_steps 40 = .ok (.aload_n 0, 1) := by decide +kernel
theorem dX5_steps_41 : decode cX5_steps 41 = .ok (.iload 5, 2) := by decide +kernel
theorem dX5_steps_43 : decode cX5_steps 43 = .ok (.invokevirtual 262, 3) := by decide +kernel
theorem dX5_steps_46 : decode cX5_steps 46 = .ok (.iinc 4 1, 3) := by decide +kernel
theorem dX5_steps_49 : decode cX5_steps 49 = .ok (.aload_n 0, 1) := by decide +kernel
theorem dX5_steps_50 : decode cX5_steps 50 = .ok (.aload_n 0, 1) := by decide +kernel
theorem dX5_steps_51 : decode cX5_steps 51 = .ok (.getfield 7, 3) := by decide +kernel
theorem dX5_steps_54 : decode cX5_steps 54 = .ok (.iconst 1, 1) := by decide +kernel
theorem dX5_steps_55 : decode cX5_steps 55 = .ok (.iaload, 1) := by decide +kernel
theorem dX5_steps_56 : decode cX5_steps 56 = .ok (.aload_n 0, 1) := by decide +kernel
theorem dX5_steps_57 : decode cX5_steps 57 = .ok (.getfield 256, 3) := by decide +kernel
theorem dX5_steps_60 : decode cX5_steps 60 = .ok (.if_icmp .le 12, 3) := by decide +kernel
theorem dX5_steps_63 : decode cX5_steps 63 = .ok (.aload_n 0, 1) := by decide +kernel
theorem dX5_steps_64 : decode cX5_steps 64 = .ok (.getfield 7, 3) := by decide +kernel
theorem dX5_steps_67 : decode cX5_steps 67 = .ok (.iconst 1, 1) := by decide +kernel
theorem dX5_steps_68 : decode cX5_steps 68 = .ok (.iaload, 1) := by decide +kernel
theorem dX5_steps_69 : decode cX5_steps 69 = .ok (.goto 7, 3) := by decide +kernel
theorem dX5_steps_72 : decode cX5_steps 72 = .ok (.aload_n 0, 1) := by decide +kernel
theorem dX5_steps_73 : decode cX5_steps 73 = .ok (.getfield 256, 3) := by decide +kernel
theorem dX5_steps_76 : decode cX5_steps 76 = .ok (.putfield 256, 3) := by decide +kernel
theorem dX5_steps_79 : decode cX5_steps 79 = .ok (.goto (-61), 3) := by decide +kernel
theorem dX5_steps_82 : decode cX5_steps 82 = .ok (.iload 4, 2) := by decide +kernel
theorem dX5_steps_84 : decode cX5_steps 84 = .ok (.ireturn, 1) := by decide +kernel
set_option maxRecDepth 20000 in
theorem ggX5_goesRound_X5_isPair : GoodIn wsX5_goesRound wsX5_isPair := goodIn_r _ [6, 7, 8, 9, 5, 10, 11, 12, 13, 14, 15, 16, 17, 18, 19, 20, 21, 22, 71, 72, 73, 74, 75, 76, 77, 78, 79, 80, 81, 82, 83, 84, 85, 86, 87, 88, 89, 90, 91, 92, 93, 94, 95, 96, 97, 98, 99, 100, 101, 102, 103, 104, 105, 106, 107, 108, 109, 110, 111, 112] (by decide +kernel) (by decide +kernel)
set_option maxRecDepth 20000 in
theorem gX5_goesRound_X5_isPair : GoodIn wsX5_goesRound (wsV RX5 230 RX5 yX5_isPair wsX5_isPair) := goodIn_app (goodIn_of _ (by decide +kernel)) ggX5_goesRound_X5_isPair
set_option maxRecDepth 20000 in
theorem ggX5_goesRound_X5_canReduce : GoodIn wsX5_goesRound wsX5_canReduce := goodIn_r _ [26, 27, 28, 29, 5, 30, 31, 32, 33, 34, 11, 15, 16, 17, 18, 19, 20, 21, 22, 35, 36, 37, 38, 71, 72, 73, 74, 75, 76, 77, 78, 79, 80, 81, 82, 83, 84, 85, 86, 87, 88, 89, 90, 91, 92, 93, 94, 95, 96, 97, 98, 99, 100, 101, 102, 103, 104, 105, 106, 107, 108, 109, 110, 111, 112] (by decide +kernel) (by decide +kernel)
set_option maxRecDepth 20000 in
theorem gX5_goesRound_X5_canReduce : GoodIn wsX5_goesRound (wsV RX5 233 RX5 yX5_canReduce wsX5_canReduce) := goodIn_app (goodIn_of _ (by decide +kernel)) ggX5_goesRound_X5_canReduce
set_option maxRecDepth 20000 in
theorem ggX5_goesRound_X5_reduces : GoodIn wsX5_goesRound wsX5_reduces := goodIn_r _ [42, 11, 43, 44, 45, 15, 16, 17, 5, 18, 19, 20, 21, 22, 27, 28, 29, 30, 31, 32, 33, 34, 46, 47, 48, 49, 50, 51, 52, 53, 54, 55, 56, 57, 58, 59, 60, 61, 62, 63, 64, 65, 66, 67, 68, 69, 70, 71, 72, 73, 74, 75, 76, 77, 78, 79, 80, 81, 82, 83, 84, 85, 86, 87, 88, 89, 90, 91, 92, 93, 94, 95, 96, 97, 98, 99, 100, 101, 102, 103, 104, 105, 106, 107, 108, 109, 110, 111, 112] (by decide +kernel) (by decide +kernel)
set_option maxRecDepth 20000 in
theorem gX5_goesRound_X5_reduces : GoodIn wsX5_goesRound (wsV RX5 262 RX5 yX5_reduces wsX5_reduces) := goodIn_app (goodIn_of _ (by decide +kernel)) ggX5_goesRound_X5_reduces
theorem dX5_goesRound_0 : decode cX5_goesRound 0 = .ok (.iconst 0, 1) := by decide +kernel
theorem dX5_goesRound_1 : decode cX5_goesRound 1 = .ok (.istore_n 1, 1) := by decide +kernel
theorem dX5_goesRound_2 : decode cX5_goesRound 2 = .ok (.iconst 0, 1) := by decide +kernel
theorem dX5_goesRound_3 : decode cX5_goesRound 3 = .ok (.istore_n 2, 1) := by decide +kernel
theorem dX5_goesRound_4 : decode cX5_goesRound 4 = .ok (.iload_n 2, 1) := by decide +kernel
theorem dX5_goesRound_5 : decode cX5_goesRound 5 = .ok (.sipush 300, 3) := by decide +kernel
theorem dX5_goesRound_8 : decode cX5_goesRound 8 = .ok (.if_icmp .ge 27, 3) := by decide +kernel
theorem dX5_goesRound_11 : decode cX5_goesRound 11 = .ok (.aload_n 0, 1) := by decide +kernel
theorem dX5_goesRound_12 : decode cX5_goesRound 12 = .ok (.iload_n 2, 1) := by decide +kernel
theorem dX5_goesRound_13 : decode cX5_goesRound 13 = .ok (.invokevirtual 230, 3) := by decide +kernel
theorem dX5_goesRound_16 : decode cX5_goesRound 16 = .ok (.ifCond .eq 13, 3) := by decide +kernel
theorem dX5_goesRound_19 : decode cX5_goesRound 19 = .ok (.aload_n 0, 1) := by decide +kernel
theorem dX5_goesRound_20 : decode cX5_goesRound 20 = .ok (.getfield 52, 3) := by decide +kernel
theorem dX5_goesRound_23 : decode cX5_goesRound 23 = .ok (.iload_n 1, 1) := by decide +kernel
theorem dX5_goesRound_24 : decode cX5_goesRound 24 = .ok (.iload_n 2, 1) := by decide +kernel
theorem dX5_goesRound_25 : decode cX5_goesRound 25 = .ok (.iastore, 1) := by decide +kernel
theorem dX5_goesRound_26 : decode cX5_goesRound 26 = .ok (.iinc 1 1, 3) := by decide +kernel
theorem dX5_goesRound_29 : decode cX5_goesRound 29 = .ok (.iinc 2 1, 3) := by decide +kernel
theorem dX5_goesRound_32 : decode cX5_goesRound 32 = .ok (.goto (-28), 3) := by decide +kernel
theorem dX5_goesRound_35 : decode cX5_goesRound 35 = .ok (.iconst 0, 1) := by decide +kernel
theorem dX5_goesRound_36 : decode cX5_goesRound 36 = .ok (.istore_n 2, 1) := by decide +kernel
theorem dX5_goesRound_37 : decode cX5_goesRound 37 = .ok (.iconst 0, 1) := by decide +kernel
theorem dX5_goesRound_38 : decode cX5_goesRound 38 = .ok (.istore_n 3, 1) := by decide +kernel
theorem dX5_goesRound_39 : decode cX5_goesRound 39 = .ok (.iload_n 3, 1) := by decide +kernel
theorem dX5_goesRound_40 : decode cX5_goesRound 40 = .ok (.iload_n 1, 1) := by decide +kernel
theorem dX5_goesRound_41 : decode cX5_goesRound 41 = .ok (.if_icmp .ge 35, 3) := by decide +kernel
theorem dX5_goesRound_44 : decode cX5_goesRound 44 = .ok (.aload_n 0, 1) := by decide +kernel
theorem dX5_goesRound_45 : decode cX5_goesRound 45 = .ok (.aload_n 0, 1) := by decide +kernel
theorem dX5_goesRound_46 : decode cX5_goesRound 46 = .ok (.getfield 52, 3) := by decide +kernel
theorem dX5_goesRound_49 : decode cX5_goesRound 49 = .ok (.iload_n 3, 1) := by decide +kernel
theorem dX5_goesRound_50 : decode cX5_goesRound 50 = .ok (.iaload, 1) := by decide +kernel
theorem dX5_goesRound_51 : decode cX5_goesRound 51 = .ok (.invokevirtual 233, 3) := by decide +kernel
theorem dX5_goesRound_54 : decode cX5_goesRound 54 = .ok (.ifCond .eq 16, 3) := by decide +kernel
theorem dX5_goesRound_57 : decode cX5_goesRound 57 = .ok (.aload_n 0, 1) := by decide +kernel
theorem dX5_goesRound_58 : decode cX5_goesRound 58 = .ok (.aload_n 0, 1) := by decide +kernel
theorem dX5_goesRound_59 : decode cX5_goesRound 59 = .ok (.getfield 52, 3) := by decide +kernel
theorem dX5_goesRound_62 : decode cX5_goesRound 62 = .ok (.iload_n 3, 1) := by decide +kernel
theorem dX5_goesRound_63 : decode cX5_goesRound 63 = .ok (.iaload, 1) := by decide +kernel
theorem dX5_goesRound_64 : decode cX5_goesRound 64 = .ok (.invokevirtual 262, 3) := by decide +kernel
theorem dX5_goesRound_67 : decode cX5_goesRound 67 = .ok (.iinc 2 1, 3) := by decide +kernel
theorem dX5_goesRound_70 : decode cX5_goesRound 70 = .ok (.iinc 3 1, 3) := by decide +kernel
theorem dX5_goesRound_73 : decode cX5_goesRound 73 = .ok (.goto (-34), 3) := by decide +kernel
theorem dX5_goesRound_76 : decode cX5_goesRound 76 = .ok (.iload_n 2, 1) := by decide +kernel
theorem dX5_goesRound_77 : decode cX5_goesRound 77 = .ok (.ireturn, 1) := by decide +kernel
set_option maxRecDepth 20000 in
theorem ggX5_count_X5_pairs : GoodIn wsX5_count wsX5_pairs := goodIn_r _ [10, 11, 12, 13, 9, 14, 15, 16, 17, 18, 2, 19, 20, 21, 22, 23, 24, 25, 26, 27, 28, 29, 30, 31, 32, 33, 34, 35, 36, 37, 38, 39, 40, 41, 42, 43, 44, 45, 50, 51, 52, 53, 54, 55, 56, 57, 58, 59, 60, 61, 62, 63, 64, 65, 66, 67, 68, 69, 70, 71, 72, 73, 74, 75, 76, 77, 78, 79, 80, 81, 82, 83, 84, 85, 86, 87, 88, 89, 90, 91] (by decide +kernel) (by decide +kernel)
set_option maxRecDepth 20000 in
theorem gX5_count_X5_pairs : GoodIn wsX5_count (wsV RX5 248 RX5 yX5_pairs wsX5_pairs) := goodIn_app (goodIn_of _ (by decide +kernel)) ggX5_count_X5_pairs
set_option maxRecDepth 20000 in
theorem ggX5_count_X5_roots : GoodIn wsX5_count wsX5_roots := goodIn_r _ [49, 2, 50, 51, 52, 53, 54, 55, 56, 57, 58, 59, 60, 61, 62, 63, 64, 65, 66, 67, 68, 69, 70, 71, 72, 73, 74, 75, 76, 77, 78, 79, 80, 81, 82, 83, 84, 85, 86, 87, 88, 89, 90, 91] (by decide +kernel) (by decide +kernel)
set_option maxRecDepth 20000 in
theorem gX5_count_X5_roots : GoodIn wsX5_count (wsV RX5 265 RX5 yX5_roots wsX5_roots) := goodIn_app (goodIn_of _ (by decide +kernel)) ggX5_count_X5_roots
theorem dX5_count_0 : decode cX5_count 0 = .ok (.aload_n 0, 1) := by decide +kernel
theorem dX5_count_1 : decode cX5_count 1 = .ok (.iconst 0, 1) := by decide +kernel
theorem dX5_count_2 : decode cX5_count 2 = .ok (.putfield 1, 3) := by decide +kernel
theorem dX5_count_5 : decode cX5_count 5 = .ok (.iload_n 1, 1) := by decide +kernel
theorem dX5_count_6 : decode cX5_count 6 = .ok (.tableswitch 187 0 13 #[70, 77, 84, 91, 98, 104, 110, 115, 123, 131, 138, 147, 177, 182], 70) := by decide +kernel
theorem dX5_count_76 : decode cX5_count 76 = .ok (.aload_n 0, 1) := by decide +kernel
theorem dX5_count_77 : decode cX5_count 77 = .ok (.getfield 7, 3) := by decide +kernel
theorem dX5_count_80 : decode cX5_count 80 = .ok (.iconst 0, 1) := by decide +kernel
theorem dX5_count_81 : decode cX5_count 81 = .ok (.iaload, 1) := by decide +kernel
theorem dX5_count_82 : decode cX5_count 82 = .ok (.ireturn, 1) := by decide +kernel
theorem dX5_count_83 : decode cX5_count 83 = .ok (.aload_n 0, 1) := by decide +kernel
theorem dX5_count_84 : decode cX5_count 84 = .ok (.getfield 7, 3) := by decide +kernel
theorem dX5_count_87 : decode cX5_count 87 = .ok (.iconst 1, 1) := by decide +kernel
theorem dX5_count_88 : decode cX5_count 88 = .ok (.iaload, 1) := by decide +kernel
theorem dX5_count_89 : decode cX5_count 89 = .ok (.ireturn, 1) := by decide +kernel
theorem dX5_count_90 : decode cX5_count 90 = .ok (.aload_n 0, 1) := by decide +kernel
theorem dX5_count_91 : decode cX5_count 91 = .ok (.getfield 7, 3) := by decide +kernel
theorem dX5_count_94 : decode cX5_count 94 = .ok (.iconst 2, 1) := by decide +kernel
theorem dX5_count_95 : decode cX5_count 95 = .ok (.iaload, 1) := by decide +kernel
theorem dX5_count_96 : decode cX5_count 96 = .ok (.ireturn, 1) := by decide +kernel
theorem dX5_count_97 : decode cX5_count 97 = .ok (.aload_n 0, 1) := by decide +kernel
theorem dX5_count_98 : decode cX5_count 98 = .ok (.getfield 7, 3) := by decide +kernel
theorem dX5_count_101 : decode cX5_count 101 = .ok (.iconst 3, 1) := by decide +kernel
theorem dX5_count_102 : decode cX5_count 102 = .ok (.iaload, 1) := by decide +kernel
theorem dX5_count_103 : decode cX5_count 103 = .ok (.ireturn, 1) := by decide +kernel
theorem dX5_count_104 : decode cX5_count 104 = .ok (.aload_n 0, 1) := by decide +kernel
theorem dX5_count_105 : decode cX5_count 105 = .ok (.iconst 0, 1) := by decide +kernel
theorem dX5_count_106 : decode cX5_count 106 = .ok (.invokevirtual 248, 3) := by decide +kernel
theorem dX5_count_109 : decode cX5_count 109 = .ok (.ireturn, 1) := by decide +kernel
theorem dX5_count_110 : decode cX5_count 110 = .ok (.aload_n 0, 1) := by decide +kernel
theorem dX5_count_111 : decode cX5_count 111 = .ok (.iconst 1, 1) := by decide +kernel
theorem dX5_count_112 : decode cX5_count 112 = .ok (.invokevirtual 248, 3) := by decide +kernel
theorem dX5_count_115 : decode cX5_count 115 = .ok (.ireturn, 1) := by decide +kernel
theorem dX5_count_116 : decode cX5_count 116 = .ok (.aload_n 0, 1) := by decide +kernel
theorem dX5_count_117 : decode cX5_count 117 = .ok (.invokevirtual 265, 3) := by decide +kernel
theorem dX5_count_120 : decode cX5_count 120 = .ok (.ireturn, 1) := by decide +kernel
theorem dX5_count_121 : decode cX5_count 121 = .ok (.aload_n 0, 1) := by decide +kernel
theorem dX5_count_122 : decode cX5_count 122 = .ok (.getfield 7, 3) := by decide +kernel
theorem dX5_count_125 : decode cX5_count 125 = .ok (.bipush 6, 2) := by decide +kernel
theorem dX5_count_127 : decode cX5_count 127 = .ok (.iaload, 1) := by decide +kernel
theorem dX5_count_128 : decode cX5_count 128 = .ok (.ireturn, 1) := by decide +kernel
theorem dX5_count_129 : decode cX5_count 129 = .ok (.aload_n 0, 1) := by decide +kernel
theorem dX5_count_130 : decode cX5_count 130 = .ok (.getfield 7, 3) := by decide +kernel
theorem dX5_count_133 : decode cX5_count 133 = .ok (.bipush 7, 2) := by decide +kernel
theorem dX5_count_135 : decode cX5_count 135 = .ok (.iaload, 1) := by decide +kernel
theorem dX5_count_136 : decode cX5_count 136 = .ok (.ireturn, 1) := by decide +kernel
theorem dX5_count_137 : decode cX5_count 137 = .ok (.aload_n 0, 1) := by decide +kernel
theorem dX5_count_138 : decode cX5_count 138 = .ok (.getfield 7, 3) := by decide +kernel
theorem dX5_count_141 : decode cX5_count 141 = .ok (.iconst 5, 1) := by decide +kernel
theorem dX5_count_142 : decode cX5_count 142 = .ok (.iaload, 1) := by decide +kernel
theorem dX5_count_143 : decode cX5_count 143 = .ok (.ireturn, 1) := by decide +kernel
theorem dX5_count_144 : decode cX5_count 144 = .ok (.aload_n 0, 1) := by decide +kernel
theorem dX5_count_145 : decode cX5_count 145 = .ok (.getfield 7, 3) := by decide +kernel
theorem dX5_count_148 : decode cX5_count 148 = .ok (.iconst 4, 1) := by decide +kernel
theorem dX5_count_149 : decode cX5_count 149 = .ok (.iaload, 1) := by decide +kernel
theorem dX5_count_150 : decode cX5_count 150 = .ok (.iconst 1, 1) := by decide +kernel
theorem dX5_count_151 : decode cX5_count 151 = .ok (.isub, 1) := by decide +kernel
theorem dX5_count_152 : decode cX5_count 152 = .ok (.ireturn, 1) := by decide +kernel
theorem dX5_count_153 : decode cX5_count 153 = .ok (.aload_n 0, 1) := by decide +kernel
theorem dX5_count_154 : decode cX5_count 154 = .ok (.getfield 79, 3) := by decide +kernel
theorem dX5_count_157 : decode cX5_count 157 = .ok (.iconst 0, 1) := by decide +kernel
theorem dX5_count_158 : decode cX5_count 158 = .ok (.baload, 1) := by decide +kernel
theorem dX5_count_159 : decode cX5_count 159 = .ok (.ifCond .eq 7, 3) := by decide +kernel
theorem dX5_count_162 : decode cX5_count 162 = .ok (.iconst 1, 1) := by decide +kernel
theorem dX5_count_163 : decode cX5_count 163 = .ok (.goto 4, 3) := by decide +kernel
theorem dX5_count_166 : decode cX5_count 166 = .ok (.iconst 0, 1) := by decide +kernel
theorem dX5_count_167 : decode cX5_count 167 = .ok (.aload_n 0, 1) := by decide +kernel
theorem dX5_count_168 : decode cX5_count 168 = .ok (.getfield 79, 3) := by decide +kernel
theorem dX5_count_171 : decode cX5_count 171 = .ok (.iconst 1, 1) := by decide +kernel
theorem dX5_count_172 : decode cX5_count 172 = .ok (.baload, 1) := by decide +kernel
theorem dX5_count_173 : decode cX5_count 173 = .ok (.ifCond .eq 7, 3) := by decide +kernel
theorem dX5_count_176 : decode cX5_count 176 = .ok (.iconst 1, 1) := by decide +kernel
theorem dX5_count_177 : decode cX5_count 177 = .ok (.goto 4, 3) := by decide +kernel
theorem dX5_count_180 : decode cX5_count 180 = .ok (.iconst 0, 1) := by decide +kernel
theorem dX5_count_181 : decode cX5_count 181 = .ok (.iadd, 1) := by decide +kernel
theorem dX5_count_182 : decode cX5_count 182 = .ok (.ireturn, 1) := by decide +kernel
theorem dX5_count_183 : decode cX5_count 183 = .ok (.aload_n 0, 1) := by decide +kernel
theorem dX5_count_184 : decode cX5_count 184 = .ok (.getfield 212, 3) := by decide +kernel
theorem dX5_count_187 : decode cX5_count 187 = .ok (.ireturn, 1) := by decide +kernel
theorem dX5_count_188 : decode cX5_count 188 = .ok (.aload_n 0, 1) := by decide +kernel
theorem dX5_count_189 : decode cX5_count 189 = .ok (.getfield 93, 3) := by decide +kernel
theorem dX5_count_192 : decode cX5_count 192 = .ok (.ireturn, 1) := by decide +kernel
theorem dX5_count_193 : decode cX5_count 193 = .ok (.iconst (-1), 1) := by decide +kernel
theorem dX5_count_194 : decode cX5_count 194 = .ok (.ireturn, 1) := by decide +kernel
theorem dX5_roots_0 : decode cX5_roots 0 = .ok (.iconst 0, 1) := by decide +kernel
theorem dX5_roots_1 : decode cX5_roots 1 = .ok (.istore_n 1, 1) := by decide +kernel
theorem dX5_roots_2 : decode cX5_roots 2 = .ok (.iconst 0, 1) := by decide +kernel
theorem dX5_roots_3 : decode cX5_roots 3 = .ok (.istore_n 2, 1) := by decide +kernel
theorem dX5_roots_4 : decode cX5_roots 4 = .ok (.iload_n 2, 1) := by decide +kernel
theorem dX5_roots_5 : decode cX5_roots 5 = .ok (.bipush 16, 2) := by decide +kernel
theorem dX5_roots_7 : decode cX5_roots 7 = .ok (.if_icmp .ge 21, 3) := by decide +kernel
theorem dX5_roots_10 : decode cX5_roots 10 = .ok (.iload_n 1, 1) := by decide +kernel
theorem dX5_roots_11 : decode cX5_roots 11 = .ok (.aload_n 0, 1) := by decide +kernel
theorem dX5_roots_12 : decode cX5_roots 12 = .ok (.getfield 7, 3) := by decide +kernel
theorem dX5_roots_15 : decode cX5_roots 15 = .ok (.bipush 14, 2) := by decide +kernel
theorem dX5_roots_17 : decode cX5_roots 17 = .ok (.iload_n 2, 1) := by decide +kernel
theorem dX5_roots_18 : decode cX5_roots 18 = .ok (.iadd, 1) := by decide +kernel
theorem dX5_roots_19 : decode cX5_roots 19 = .ok (.iaload, 1) := by decide +kernel
theorem dX5_roots_20 : decode cX5_roots 20 = .ok (.iadd, 1) := by decide +kernel
theorem dX5_roots_21 : decode cX5_roots 21 = .ok (.istore_n 1, 1) := by decide +kernel
theorem dX5_roots_22 : decode cX5_roots 22 = .ok (.iinc 2 1, 3) := by decide +kernel
theorem dX5_roots_25 : decode cX5_roots 25 = .ok (.goto (-21), 3) := by decide +kernel
theorem dX5_roots_28 : decode cX5_roots 28 = .ok (.iload_n 1, 1) := by decide +kernel
theorem dX5_roots_29 : decode cX5_roots 29 = .ok (.ireturn, 1) := by decide +kernel
set_option maxRecDepth 20000 in
theorem ggX5_rule_X5_within : GoodIn wsX5_rule wsX5_within := goodIn_r _ [6] (by decide +kernel) (by decide +kernel)
set_option maxRecDepth 20000 in
theorem gX5_rule_X5_within : GoodIn wsX5_rule (va_wsS RX5 89 yX5_within wsX5_within) := goodIn_app (goodIn_of _ (by decide +kernel)) ggX5_rule_X5_within
theorem dX5_rule_0 : decode cX5_rule 0 = .ok (.aload_n 0, 1) := by decide +kernel
theorem dX5_rule_1 : decode cX5_rule 1 = .ok (.iconst 0, 1) := by decide +kernel
theorem dX5_rule_2 : decode cX5_rule 2 = .ok (.putfield 1, 3) := by decide +kernel
theorem dX5_rule_5 : decode cX5_rule 5 = .ok (.iload_n 1, 1) := by decide +kernel
theorem dX5_rule_6 : decode cX5_rule 6 = .ok (.iconst 0, 1) := by decide +kernel
theorem dX5_rule_7 : decode cX5_rule 7 = .ok (.iconst 5, 1) := by decide +kernel
theorem dX5_rule_8 : decode cX5_rule 8 = .ok (.invokestatic 89, 3) := by decide +kernel
theorem dX5_rule_11 : decode cX5_rule 11 = .ok (.ifCond .eq 15, 3) := by decide +kernel
theorem dX5_rule_14 : decode cX5_rule 14 = .ok (.aload_n 0, 1) := by decide +kernel
theorem dX5_rule_15 : decode cX5_rule 15 = .ok (.getfield 7, 3) := by decide +kernel
theorem dX5_rule_18 : decode cX5_rule 18 = .ok (.bipush 8, 2) := by decide +kernel
theorem dX5_rule_20 : decode cX5_rule 20 = .ok (.iload_n 1, 1) := by decide +kernel
theorem dX5_rule_21 : decode cX5_rule 21 = .ok (.iadd, 1) := by decide +kernel
theorem dX5_rule_22 : decode cX5_rule 22 = .ok (.iaload, 1) := by decide +kernel
theorem dX5_rule_23 : decode cX5_rule 23 = .ok (.goto 4, 3) := by decide +kernel
theorem dX5_rule_26 : decode cX5_rule 26 = .ok (.iconst (-1), 1) := by decide +kernel
theorem dX5_rule_27 : decode cX5_rule 27 = .ok (.ireturn, 1) := by decide +kernel
set_option maxRecDepth 20000 in
theorem ggX5_kind_X5_isNode : GoodIn wsX5_kind wsX5_isNode := goodIn_r _ [6, 7, 8, 9, 5, 10, 15, 16, 17, 18, 19, 20, 21, 22, 23, 24, 25, 26, 27, 28, 29, 30, 31, 32, 33, 34, 35, 36, 37, 38, 39, 40, 41, 42, 43, 44, 45, 46, 47, 48, 49, 50, 51, 52, 53, 54, 55, 56] (by decide +kernel) (by decide +kernel)
set_option maxRecDepth 20000 in
theorem gX5_kind_X5_isNode : GoodIn wsX5_kind (wsV RX5 218 RX5 yX5_isNode wsX5_isNode) := goodIn_app (goodIn_of _ (by decide +kernel)) ggX5_kind_X5_isNode
set_option maxRecDepth 20000 in
theorem ggX5_kind_X5_kindOf : GoodIn wsX5_kind wsX5_kindOf := goodIn_r _ [14, 7, 15, 16, 17, 18, 19, 20, 21, 22, 23, 24, 25, 26, 27, 28, 29, 30, 31, 32, 33, 34, 35, 36, 37, 38, 39, 40, 41, 42, 43, 44, 45, 46, 47, 48, 49, 50, 51, 52, 53, 54, 55, 56] (by decide +kernel) (by decide +kernel)
set_option maxRecDepth 20000 in
theorem gX5_kind_X5_kindOf : GoodIn wsX5_kind (wsV RX5 224 RX5 yX5_kindOf wsX5_kindOf) := goodIn_app (goodIn_of _ (by decide +kernel)) ggX5_kind_X5_kindOf
theorem dX5_kind_0 : decode cX5_kind 0 = .ok (.aload_n 0, 1) := by decide +kernel
theorem dX5_kind_1 : decode cX5_kind 1 = .ok (.iconst 0, 1) := by decide +kernel
theorem dX5_kind_2 : decode cX5_kind 2 = .ok (.putfield 1, 3) := by decide +kernel
theorem dX5_kind_5 : decode cX5_kind 5 = .ok (.aload_n 0, 1) := by decide +kernel
theorem dX5_kind_6 : decode cX5_kind 6 = .ok (.iload_n 1, 1) := by decide +kernel
theorem dX5_kind_7 : decode cX5_kind 7 = .ok (.invokevirtual 218, 3) := by decide +kernel
theorem dX5_kind_10 : decode cX5_kind 10 = .ok (.ifCond .eq 11, 3) := by decide +kernel
theorem dX5_kind_13 : decode cX5_kind 13 = .ok (.aload_n 0, 1) := by decide +kernel
theorem dX5_kind_14 : decode cX5_kind 14 = .ok (.iload_n 1, 1) := by decide +kernel
theorem dX5_kind_15 : decode cX5_kind 15 = .ok (.invokevirtual 224, 3) := by decide +kernel
theorem dX5_kind_18 : decode cX5_kind 18 = .ok (.goto 4, 3) := by decide +kernel
theorem dX5_kind_21 : decode cX5_kind 21 = .ok (.iconst (-1), 1) := by decide +kernel
theorem dX5_kind_22 : decode cX5_kind 22 = .ok (.ireturn, 1) := by decide +kernel
set_option maxRecDepth 20000 in
theorem ggX5_link_X5_isNode : GoodIn wsX5_link wsX5_isNode := goodIn_r _ [6, 7, 8, 9, 5, 10, 19, 20, 21, 22, 23, 24, 25, 26, 27, 28, 29, 30, 31, 32, 33, 34, 35, 36, 37, 38, 39, 40, 41, 42, 43, 44, 45, 46, 47, 48, 49, 50, 51, 52, 53, 54, 55, 56, 57, 58, 59, 60] (by decide +kernel) (by decide +kernel)
set_option maxRecDepth 20000 in
theorem gX5_link_X5_isNode : GoodIn wsX5_link (wsV RX5 218 RX5 yX5_isNode wsX5_isNode) := goodIn_app (goodIn_of _ (by decide +kernel)) ggX5_link_X5_isNode
set_option maxRecDepth 20000 in
theorem ggX5_link_X5_kindOf : GoodIn wsX5_link wsX5_kindOf := goodIn_r _ [14, 7, 19, 20, 21, 22, 23, 24, 25, 26, 27, 28, 29, 30, 31, 32, 33, 34, 35, 36, 37, 38, 39, 40, 41, 42, 43, 44, 45, 46, 47, 48, 49, 50, 51, 52, 53, 54, 55, 56, 57, 58, 59, 60] (by decide +kernel) (by decide +kernel)
set_option maxRecDepth 20000 in
theorem gX5_link_X5_kindOf : GoodIn wsX5_link (wsV RX5 224 RX5 yX5_kindOf wsX5_kindOf) := goodIn_app (goodIn_of _ (by decide +kernel)) ggX5_link_X5_kindOf
set_option maxRecDepth 20000 in
theorem ggX5_link_X5_within : GoodIn wsX5_link wsX5_within := goodIn_r _ [10] (by decide +kernel) (by decide +kernel)
set_option maxRecDepth 20000 in
theorem gX5_link_X5_within : GoodIn wsX5_link (va_wsS RX5 89 yX5_within wsX5_within) := goodIn_app (goodIn_of _ (by decide +kernel)) ggX5_link_X5_within
set_option maxRecDepth 20000 in
theorem ggX5_link_X5_linkOf : GoodIn wsX5_link wsX5_linkOf := goodIn_r _ [18, 7, 19, 20, 21, 22, 23, 24, 25, 26, 27, 28, 29, 30, 31, 32, 33, 34, 35, 36, 37, 38, 39, 40, 41, 42, 43, 44, 45, 46, 47, 48, 49, 50, 51, 52, 53, 54, 55, 56, 57, 58, 59, 60] (by decide +kernel) (by decide +kernel)
set_option maxRecDepth 20000 in
theorem gX5_link_X5_linkOf : GoodIn wsX5_link (wsV RX5 215 RX5 yX5_linkOf wsX5_linkOf) := goodIn_app (goodIn_of _ (by decide +kernel)) ggX5_link_X5_linkOf
theorem dX5_link_0 : decode cX5_link 0 = .ok (.aload_n 0, 1) := by decide +kernel
theorem dX5_link_1 : decode cX5_link 1 = .ok (.iconst 0, 1) := by decide +kernel
theorem dX5_link_2 : decode cX5_link 2 = .ok (.putfield 1, 3) := by decide +kernel
theorem dX5_link_5 : decode cX5_link 5 = .ok (.aload_n 0, 1) := by decide +kernel
theorem dX5_link_6 : decode cX5_link 6 = .ok (.iload_n 1, 1) := by decide +kernel
theorem dX5_link_7 : decode cX5_link 7 = .ok (.invokevirtual 218, 3) := by decide +kernel
theorem dX5_link_10 : decode cX5_link 10 = .ok (.ifCond .eq 36, 3) := by decide +kernel
theorem dX5_link_13 : decode cX5_link 13 = .ok (.iload_n 2, 1) := by decide +kernel
theorem dX5_link_14 : decode cX5_link 14 = .ok (.iconst 0, 1) := by decide +kernel
theorem dX5_link_15 : decode cX5_link 15 = .ok (.aload_n 0, 1) := by decide +kernel
theorem dX5_link_16 : decode cX5_link 16 = .ok (.iload_n 1, 1) := by decide +kernel
theorem dX5_link_17 : decode cX5_link 17 = .ok (.invokevirtual 224, 3) := by decide +kernel
theorem dX5_link_20 : decode cX5_link 20 = .ok (.ifCond .ne 7, 3) := by decide +kernel
theorem dX5_link_23 : decode cX5_link 23 = .ok (.iconst 0, 1) := by decide +kernel
theorem dX5_link_24 : decode cX5_link 24 = .ok (.goto 4, 3) := by decide +kernel
theorem dX5_link_27 : decode cX5_link 27 = .ok (.iconst 2, 1) := by decide +kernel
theorem dX5_link_28 : decode cX5_link 28 = .ok (.invokestatic 89, 3) := by decide +kernel
theorem dX5_link_31 : decode cX5_link 31 = .ok (.ifCond .eq 15, 3) := by decide +kernel
theorem dX5_link_34 : decode cX5_link 34 = .ok (.aload_n 0, 1) := by decide +kernel
theorem dX5_link_35 : decode cX5_link 35 = .ok (.iconst 3, 1) := by decide +kernel
theorem dX5_link_36 : decode cX5_link 36 = .ok (.iload_n 1, 1) := by decide +kernel
theorem dX5_link_37 : decode cX5_link 37 = .ok (.imul, 1) := by decide +kernel
theorem dX5_link_38 : decode cX5_link 38 = .ok (.iload_n 2, 1) := by decide +kernel
theorem dX5_link_39 : decode cX5_link 39 = .ok (.iadd, 1) := by decide +kernel
theorem dX5_link_40 : decode cX5_link 40 = .ok (.invokevirtual 215, 3) := by decide +kernel
theorem dX5_link_43 : decode cX5_link 43 = .ok (.goto 4, 3) := by decide +kernel
theorem dX5_link_46 : decode cX5_link 46 = .ok (.iconst (-1), 1) := by decide +kernel
theorem dX5_link_47 : decode cX5_link 47 = .ok (.ireturn, 1) := by decide +kernel
set_option maxRecDepth 20000 in
theorem ggX5_isRoot_X5_within : GoodIn wsX5_isRoot wsX5_within := goodIn_r _ [5] (by decide +kernel) (by decide +kernel)
set_option maxRecDepth 20000 in
theorem gX5_isRoot_X5_within : GoodIn wsX5_isRoot (va_wsS RX5 89 yX5_within wsX5_within) := goodIn_app (goodIn_of _ (by decide +kernel)) ggX5_isRoot_X5_within
theorem dX5_isRoot_0 : decode cX5_isRoot 0 = .ok (.iload_n 1, 1) := by decide +kernel
theorem dX5_isRoot_1 : decode cX5_isRoot 1 = .ok (.iconst 0, 1) := by decide +kernel
theorem dX5_isRoot_2 : decode cX5_isRoot 2 = .ok (.bipush 15, 2) := by decide +kernel
theorem dX5_isRoot_4 : decode cX5_isRoot 4 = .ok (.invokestatic 89, 3) := by decide +kernel
theorem dX5_isRoot_7 : decode cX5_isRoot 7 = .ok (.ifCond .eq 20, 3) := by decide +kernel
theorem dX5_isRoot_10 : decode cX5_isRoot 10 = .ok (.aload_n 0, 1) := by decide +kernel
theorem dX5_isRoot_11 : decode cX5_isRoot 11 = .ok (.getfield 7, 3) := by decide +kernel
theorem dX5_isRoot_14 : decode cX5_isRoot 14 = .ok (.bipush 14, 2) := by decide +kernel
theorem dX5_isRoot_16 : decode cX5_isRoot 16 = .ok (.iload_n 1, 1) := by decide +kernel
theorem dX5_isRoot_17 : decode cX5_isRoot 17 = .ok (.iadd, 1) := by decide +kernel
theorem dX5_isRoot_18 : decode cX5_isRoot 18 = .ok (.iaload, 1) := by decide +kernel
theorem dX5_isRoot_19 : decode cX5_isRoot 19 = .ok (.iconst 1, 1) := by decide +kernel
theorem dX5_isRoot_20 : decode cX5_isRoot 20 = .ok (.if_icmp .ne 7, 3) := by decide +kernel
theorem dX5_isRoot_23 : decode cX5_isRoot 23 = .ok (.iconst 1, 1) := by decide +kernel
theorem dX5_isRoot_24 : decode cX5_isRoot 24 = .ok (.goto 4, 3) := by decide +kernel
theorem dX5_isRoot_27 : decode cX5_isRoot 27 = .ok (.iconst 0, 1) := by decide +kernel
theorem dX5_isRoot_28 : decode cX5_isRoot 28 = .ok (.ireturn, 1) := by decide +kernel
set_option maxRecDepth 20000 in
theorem ggX5_root_X5_isRoot : GoodIn wsX5_root wsX5_isRoot := goodIn_r _ [6, 7, 8, 9, 5, 10, 15, 16, 17, 18, 19, 20, 21, 22, 23, 24, 25, 26, 27, 28, 29, 30, 31, 32, 33, 34, 35, 36, 37, 38, 39, 40, 41, 42, 43, 44, 45, 46, 47, 48, 49, 50, 51, 52, 53, 54, 55, 56] (by decide +kernel) (by decide +kernel)
set_option maxRecDepth 20000 in
theorem gX5_root_X5_isRoot : GoodIn wsX5_root (wsV RX5 268 RX5 yX5_isRoot wsX5_isRoot) := goodIn_app (goodIn_of _ (by decide +kernel)) ggX5_root_X5_isRoot
set_option maxRecDepth 20000 in
theorem ggX5_root_X5_linkOf : GoodIn wsX5_root wsX5_linkOf := goodIn_r _ [14, 7, 15, 16, 17, 18, 19, 20, 21, 22, 23, 24, 25, 26, 27, 28, 29, 30, 31, 32, 33, 34, 35, 36, 37, 38, 39, 40, 41, 42, 43, 44, 45, 46, 47, 48, 49, 50, 51, 52, 53, 54, 55, 56] (by decide +kernel) (by decide +kernel)
set_option maxRecDepth 20000 in
theorem gX5_root_X5_linkOf : GoodIn wsX5_root (wsV RX5 215 RX5 yX5_linkOf wsX5_linkOf) := goodIn_app (goodIn_of _ (by decide +kernel)) ggX5_root_X5_linkOf
theorem dX5_root_0 : decode cX5_root 0 = .ok (.aload_n 0, 1) := by decide +kernel
theorem dX5_root_1 : decode cX5_root 1 = .ok (.iconst 0, 1) := by decide +kernel
theorem dX5_root_2 : decode cX5_root 2 = .ok (.putfield 1, 3) := by decide +kernel
theorem dX5_root_5 : decode cX5_root 5 = .ok (.aload_n 0, 1) := by decide +kernel
theorem dX5_root_6 : decode cX5_root 6 = .ok (.iload_n 1, 1) := by decide +kernel
theorem dX5_root_7 : decode cX5_root 7 = .ok (.invokevirtual 268, 3) := by decide +kernel
theorem dX5_root_10 : decode cX5_root 10 = .ok (.ifCond .eq 15, 3) := by decide +kernel
theorem dX5_root_13 : decode cX5_root 13 = .ok (.aload_n 0, 1) := by decide +kernel
theorem dX5_root_14 : decode cX5_root 14 = .ok (.sipush 1000, 3) := by decide +kernel
theorem dX5_root_17 : decode cX5_root 17 = .ok (.iload_n 1, 1) := by decide +kernel
theorem dX5_root_18 : decode cX5_root 18 = .ok (.iadd, 1) := by decide +kernel
theorem dX5_root_19 : decode cX5_root 19 = .ok (.invokevirtual 215, 3) := by decide +kernel
theorem dX5_root_22 : decode cX5_root 22 = .ok (.goto 4, 3) := by decide +kernel
theorem dX5_root_25 : decode cX5_root 25 = .ok (.iconst (-1), 1) := by decide +kernel
theorem dX5_root_26 : decode cX5_root 26 = .ok (.ireturn, 1) := by decide +kernel
set_option maxRecDepth 20000 in
theorem ggX5_rootAt_X5_isRoot : GoodIn wsX5_rootAt wsX5_isRoot := goodIn_r _ [6, 7, 8, 9, 5, 10, 11, 12, 13, 14, 15, 16, 17, 18, 19, 20, 21, 22, 23, 24, 25, 26, 27, 28, 29, 30, 31, 32, 33, 34, 35, 36, 37, 38, 39, 40, 41, 42, 43, 44, 45, 46, 47, 48, 49, 50, 51, 52] (by decide +kernel) (by decide +kernel)
set_option maxRecDepth 20000 in
theorem gX5_rootAt_X5_isRoot : GoodIn wsX5_rootAt (wsV RX5 268 RX5 yX5_isRoot wsX5_isRoot) := goodIn_app (goodIn_of _ (by decide +kernel)) ggX5_rootAt_X5_isRoot
theorem dX5_rootAt_0 : decode cX5_rootAt 0 = .ok (.aload_n 0, 1) := by decide +kernel
theorem dX5_rootAt_1 : decode cX5_rootAt 1 = .ok (.iconst 0, 1) := by decide +kernel
theorem dX5_rootAt_2 : decode cX5_rootAt 2 = .ok (.putfield 1, 3) := by decide +kernel
theorem dX5_rootAt_5 : decode cX5_rootAt 5 = .ok (.iload_n 1, 1) := by decide +kernel
theorem dX5_rootAt_6 : decode cX5_rootAt 6 = .ok (.istore_n 2, 1) := by decide +kernel
theorem dX5_rootAt_7 : decode cX5_rootAt 7 = .ok (.iconst 0, 1) := by decide +kernel
theorem dX5_rootAt_8 : decode cX5_rootAt 8 = .ok (.istore_n 3, 1) := by decide +kernel
theorem dX5_rootAt_9 : decode cX5_rootAt 9 = .ok (.iload_n 3, 1) := by decide +kernel
theorem dX5_rootAt_10 : decode cX5_rootAt 10 = .ok (.bipush 16, 2) := by decide +kernel
theorem dX5_rootAt_12 : decode cX5_rootAt 12 = .ok (.if_icmp .ge 26, 3) := by decide +kernel
theorem dX5_rootAt_15 : decode cX5_rootAt 15 = .ok (.aload_n 0, 1) := by decide +kernel
theorem dX5_rootAt_16 : decode cX5_rootAt 16 = .ok (.iload_n 3, 1) := by decide +kernel
theorem dX5_rootAt_17 : decode cX5_rootAt 17 = .ok (.invokevirtual 268, 3) := by decide +kernel
theorem dX5_rootAt_20 : decode cX5_rootAt 20 = .ok (.ifCond .eq 12, 3) := by decide +kernel
theorem dX5_rootAt_23 : decode cX5_rootAt 23 = .ok (.iload_n 2, 1) := by decide +kernel
theorem dX5_rootAt_24 : decode cX5_rootAt 24 = .ok (.ifCond .ne 5, 3) := by decide +kernel
theorem dX5_rootAt_27 : decode cX5_rootAt 27 = .ok (.iload_n 3, 1) := by decide +kernel
theorem dX5_rootAt_28 : decode cX5_rootAt 28 = .ok (.ireturn, 1) := by decide +kernel
theorem dX5_rootAt_29 : decode cX5_rootAt 29 = .ok (.iinc 2 (-1), 3) := by decide +kernel
theorem dX5_rootAt_32 : decode cX5_rootAt 32 = .ok (.iinc 3 1, 3) := by decide +kernel
theorem dX5_rootAt_35 : decode cX5_rootAt 35 = .ok (.goto (-26), 3) := by decide +kernel
theorem dX5_rootAt_38 : decode cX5_rootAt 38 = .ok (.iconst (-1), 1) := by decide +kernel
theorem dX5_rootAt_39 : decode cX5_rootAt 39 = .ok (.ireturn, 1) := by decide +kernel
set_option maxRecDepth 20000 in
theorem ggX5_pair_X5_within : GoodIn wsX5_pair wsX5_within := goodIn_r _ [5] (by decide +kernel) (by decide +kernel)
set_option maxRecDepth 20000 in
theorem gX5_pair_X5_within : GoodIn wsX5_pair (va_wsS RX5 89 yX5_within wsX5_within) := goodIn_app (goodIn_of _ (by decide +kernel)) ggX5_pair_X5_within
set_option maxRecDepth 20000 in
theorem ggX5_pair_X5_isPair : GoodIn wsX5_pair wsX5_isPair := goodIn_r _ [9, 10, 11, 12, 4, 13, 14, 2, 3, 5, 15, 16, 17, 18, 19, 20, 21, 22, 39, 40, 41, 42, 43, 44, 45, 46, 47, 48, 49, 50, 51, 52, 53, 54, 55, 56, 57, 58, 59, 60, 61, 62, 63, 64, 65, 66, 67, 68, 69, 70, 71, 72, 73, 74, 75, 76, 77, 78, 79, 80] (by decide +kernel) (by decide +kernel)
set_option maxRecDepth 20000 in
theorem gX5_pair_X5_isPair : GoodIn wsX5_pair (wsV RX5 230 RX5 yX5_isPair wsX5_isPair) := goodIn_app (goodIn_of _ (by decide +kernel)) ggX5_pair_X5_isPair
set_option maxRecDepth 20000 in
theorem ggX5_pair_X5_facing : GoodIn wsX5_pair wsX5_facing := goodIn_r _ [18, 19, 20, 21, 4, 22, 14, 39, 40, 41, 42, 43, 44, 45, 46, 47, 48, 49, 50, 51, 52, 53, 54, 55, 56, 57, 58, 59, 60, 61, 62, 63, 64, 65, 66, 67, 68, 69, 70, 71, 72, 73, 74, 75, 76, 77, 78, 79, 80] (by decide +kernel) (by decide +kernel)
set_option maxRecDepth 20000 in
theorem gX5_pair_X5_facing : GoodIn wsX5_pair (wsV RX5 221 RX5 yX5_facing wsX5_facing) := goodIn_app (goodIn_of _ (by decide +kernel)) ggX5_pair_X5_facing
set_option maxRecDepth 20000 in
theorem ggX5_pair_X5_ruleOf : GoodIn wsX5_pair wsX5_ruleOf := goodIn_r _ [26, 27, 28, 29, 4, 30, 14, 15, 16, 17, 18, 19, 20, 21, 22, 39, 40, 41, 42, 43, 44, 45, 46, 47, 48, 49, 50, 51, 52, 53, 54, 55, 56, 57, 58, 59, 60, 61, 62, 63, 64, 65, 66, 67, 68, 69, 70, 71, 72, 73, 74, 75, 76, 77, 78, 79, 80] (by decide +kernel) (by decide +kernel)
set_option maxRecDepth 20000 in
theorem gX5_pair_X5_ruleOf : GoodIn wsX5_pair (wsV RX5 227 RX5 yX5_ruleOf wsX5_ruleOf) := goodIn_app (goodIn_of _ (by decide +kernel)) ggX5_pair_X5_ruleOf
set_option maxRecDepth 20000 in
theorem ggX5_pair_X5_canReduce : GoodIn wsX5_pair wsX5_canReduce := goodIn_r _ [34, 23, 24, 25, 4, 26, 27, 28, 29, 30, 14, 15, 16, 17, 18, 19, 20, 21, 22, 35, 36, 37, 38, 39, 40, 41, 42, 43, 44, 45, 46, 47, 48, 49, 50, 51, 52, 53, 54, 55, 56, 57, 58, 59, 60, 61, 62, 63, 64, 65, 66, 67, 68, 69, 70, 71, 72, 73, 74, 75, 76, 77, 78, 79, 80] (by decide +kernel) (by decide +kernel)
set_option maxRecDepth 20000 in
theorem gX5_pair_X5_canReduce : GoodIn wsX5_pair (wsV RX5 233 RX5 yX5_canReduce wsX5_canReduce) := goodIn_app (goodIn_of _ (by decide +kernel)) ggX5_pair_X5_canReduce
theorem dX5_pair_0 : decode cX5_pair 0 = .ok (.aload_n 0, 1) := by decide +kernel
theorem dX5_pair_1 : decode cX5_pair 1 = .ok (.iconst 0, 1) := by decide +kernel
theorem dX5_pair_2 : decode cX5_pair 2 = .ok (.putfield 1, 3) := by decide +kernel
theorem dX5_pair_5 : decode cX5_pair 5 = .ok (.iload_n 2, 1) := by decide +kernel
theorem dX5_pair_6 : decode cX5_pair 6 = .ok (.iconst 0, 1) := by decide +kernel
theorem dX5_pair_7 : decode cX5_pair 7 = .ok (.iconst 3, 1) := by decide +kernel
theorem dX5_pair_8 : decode cX5_pair 8 = .ok (.invokestatic 89, 3) := by decide +kernel
theorem dX5_pair_11 : decode cX5_pair 11 = .ok (.ifCond .ne 5, 3) := by decide +kernel
theorem dX5_pair_14 : decode cX5_pair 14 = .ok (.iconst (-1), 1) := by decide +kernel
theorem dX5_pair_15 : decode cX5_pair 15 = .ok (.ireturn, 1) := by decide +kernel
theorem dX5_pair_16 : decode cX5_pair 16 = .ok (.iload_n 1, 1) := by decide +kernel
theorem dX5_pair_17 : decode cX5_pair 17 = .ok (.istore_n 3, 1) := by decide +kernel
theorem dX5_pair_18 : decode cX5_pair 18 = .ok (.iconst 0, 1) := by decide +kernel
theorem dX5_pair_19 : decode cX5_pair 19 = .ok (.istore 4, 2) := by decide +kernel
theorem dX5_pair_21 : decode cX5_pair 21 = .ok (.iload 4, 2) := by decide +kernel
theorem dX5_pair_23 : decode cX5_pair 23 = .ok (.sipush 300, 3) := by decide +kernel
theorem dX5_pair_26 : decode cX5_pair 26 = .ok (.if_icmp .ge 77, 3) := by decide +kernel
theorem dX5_pair_29 : decode cX5_pair 29 = .ok (.aload_n 0, 1) := by decide +kernel
theorem dX5_pair_30 : decode cX5_pair 30 = .ok (.iload 4, 2) := by decide +kernel
theorem dX5_pair_32 : decode cX5_pair 32 = .ok (.invokevirtual 230, 3) := by decide +kernel
theorem dX5_pair_35 : decode cX5_pair 35 = .ok (.ifCond .eq 62, 3) := by decide +kernel
theorem dX5_pair_38 : decode cX5_pair 38 = .ok (.iload_n 3, 1) := by decide +kernel
theorem dX5_pair_39 : decode cX5_pair 39 = .ok (.ifCond .ne 55, 3) := by decide +kernel
theorem dX5_pair_42 : decode cX5_pair 42 = .ok (.iload_n 2, 1) := by decide +kernel
theorem dX5_pair_43 : decode cX5_pair 43 = .ok (.ifCond .ne 8, 3) := by decide +kernel
theorem dX5_pair_46 : decode cX5_pair 46 = .ok (.iload 4, 2) := by decide +kernel
theorem dX5_pair_48 : decode cX5_pair 48 = .ok (.goto 45, 3) := by decide +kernel
theorem dX5_pair_51 : decode cX5_pair 51 = .ok (.iload_n 2, 1) := by decide +kernel
theorem dX5_pair_52 : decode cX5_pair 52 = .ok (.iconst 1, 1) := by decide +kernel
theorem dX5_pair_53 : decode cX5_pair 53 = .ok (.if_icmp .ne 12, 3) := by decide +kernel
theorem dX5_pair_56 : decode cX5_pair 56 = .ok (.aload_n 0, 1) := by decide +kernel
theorem dX5_pair_57 : decode cX5_pair 57 = .ok (.iload 4, 2) := by decide +kernel
theorem dX5_pair_59 : decode cX5_pair 59 = .ok (.invokevirtual 221, 3) := by decide +kernel
theorem dX5_pair_62 : decode cX5_pair 62 = .ok (.goto 31, 3) := by decide +kernel
theorem dX5_pair_65 : decode cX5_pair 65 = .ok (.iload_n 2, 1) := by decide +kernel
theorem dX5_pair_66 : decode cX5_pair 66 = .ok (.iconst 2, 1) := by decide +kernel
theorem dX5_pair_67 : decode cX5_pair 67 = .ok (.if_icmp .ne 12, 3) := by decide +kernel
theorem dX5_pair_70 : decode cX5_pair 70 = .ok (.aload_n 0, 1) := by decide +kernel
theorem dX5_pair_71 : decode cX5_pair 71 = .ok (.iload 4, 2) := by decide +kernel
theorem dX5_pair_73 : decode cX5_pair 73 = .ok (.invokevirtual 227, 3) := by decide +kernel
theorem dX5_pair_76 : decode cX5_pair 76 = .ok (.goto 17, 3) := by decide +kernel
theorem dX5_pair_79 : decode cX5_pair 79 = .ok (.aload_n 0, 1) := by decide +kernel
theorem dX5_pair_80 : decode cX5_pair 80 = .ok (.iload 4, 2) := by decide +kernel
theorem dX5_pair_82 : decode cX5_pair 82 = .ok (.invokevirtual 233, 3) := by decide +kernel
theorem dX5_pair_85 : decode cX5_pair 85 = .ok (.ifCond .eq 7, 3) := by decide +kernel
theorem dX5_pair_88 : decode cX5_pair 88 = .ok (.iconst 1, 1) := by decide +kernel
theorem dX5_pair_89 : decode cX5_pair 89 = .ok (.goto 4, 3) := by decide +kernel
theorem dX5_pair_92 : decode cX5_pair 92 = .ok (.iconst 0, 1) := by decide +kernel
theorem dX5_pair_93 : decode cX5_pair 93 = .ok (.ireturn, 1) := by decide +kernel
theorem dX5_pair_94 : decode cX5_pair 94 = .ok (.iinc 3 (-1), 3) := by decide +kernel
theorem dX5_pair_97 : decode cX5_pair 97 = .ok (.iinc 4 1, 3) := by decide +kernel
theorem dX5_pair_100 : decode cX5_pair 100 = .ok (.goto (-79), 3) := by decide +kernel
theorem dX5_pair_103 : decode cX5_pair 103 = .ok (.iconst (-1), 1) := by decide +kernel
theorem dX5_pair_104 : decode cX5_pair 104 = .ok (.ireturn, 1) := by decide +kernel
theorem dX5_next_0 : decode cX5_next 0 = .ok (.aload_n 0, 1) := by decide +kernel
theorem dX5_next_1 : decode cX5_next 1 = .ok (.iconst 0, 1) := by decide +kernel
theorem dX5_next_2 : decode cX5_next 2 = .ok (.putfield 1, 3) := by decide +kernel
theorem dX5_next_5 : decode cX5_next 5 = .ok (.iload_n 1, 1) := by decide +kernel
theorem dX5_next_6 : decode cX5_next 6 = .ok (.ifCond .ge 5, 3) := by decide +kernel
theorem dX5_next_9 : decode cX5_next 9 = .ok (.iconst (-1), 1) := by decide +kernel
theorem dX5_next_10 : decode cX5_next 10 = .ok (.ireturn, 1) := by decide +kernel
theorem dX5_next_11 : decode cX5_next 11 = .ok (.iload_n 1, 1) := by decide +kernel
theorem dX5_next_12 : decode cX5_next 12 = .ok (.aload_n 0, 1) := by decide +kernel
theorem dX5_next_13 : decode cX5_next 13 = .ok (.getfield 7, 3) := by decide +kernel
theorem dX5_next_16 : decode cX5_next 16 = .ok (.iconst 5, 1) := by decide +kernel
theorem dX5_next_17 : decode cX5_next 17 = .ok (.iaload, 1) := by decide +kernel
theorem dX5_next_18 : decode cX5_next 18 = .ok (.if_icmp .ge 23, 3) := by decide +kernel
theorem dX5_next_21 : decode cX5_next 21 = .ok (.aload_n 0, 1) := by decide +kernel
theorem dX5_next_22 : decode cX5_next 22 = .ok (.getfield 7, 3) := by decide +kernel
theorem dX5_next_25 : decode cX5_next 25 = .ok (.sipush 330, 3) := by decide +kernel
theorem dX5_next_28 : decode cX5_next 28 = .ok (.aload_n 0, 1) := by decide +kernel
theorem dX5_next_29 : decode cX5_next 29 = .ok (.getfield 7, 3) := by decide +kernel
theorem dX5_next_32 : decode cX5_next 32 = .ok (.iconst 5, 1) := by decide +kernel
theorem dX5_next_33 : decode cX5_next 33 = .ok (.iaload, 1) := by decide +kernel
theorem dX5_next_34 : decode cX5_next 34 = .ok (.iadd, 1) := by decide +kernel
theorem dX5_next_35 : decode cX5_next 35 = .ok (.iconst 1, 1) := by decide +kernel
theorem dX5_next_36 : decode cX5_next 36 = .ok (.isub, 1) := by decide +kernel
theorem dX5_next_37 : decode cX5_next 37 = .ok (.iload_n 1, 1) := by decide +kernel
theorem dX5_next_38 : decode cX5_next 38 = .ok (.isub, 1) := by decide +kernel
theorem dX5_next_39 : decode cX5_next 39 = .ok (.iaload, 1) := by decide +kernel
theorem dX5_next_40 : decode cX5_next 40 = .ok (.ireturn, 1) := by decide +kernel
theorem dX5_next_41 : decode cX5_next 41 = .ok (.aload_n 0, 1) := by decide +kernel
theorem dX5_next_42 : decode cX5_next 42 = .ok (.getfield 7, 3) := by decide +kernel
theorem dX5_next_45 : decode cX5_next 45 = .ok (.iconst 4, 1) := by decide +kernel
theorem dX5_next_46 : decode cX5_next 46 = .ok (.iaload, 1) := by decide +kernel
theorem dX5_next_47 : decode cX5_next 47 = .ok (.i2l, 1) := by decide +kernel
theorem dX5_next_48 : decode cX5_next 48 = .ok (.iload_n 1, 1) := by decide +kernel
theorem dX5_next_49 : decode cX5_next 49 = .ok (.i2l, 1) := by decide +kernel
theorem dX5_next_50 : decode cX5_next 50 = .ok (.ladd, 1) := by decide +kernel
theorem dX5_next_51 : decode cX5_next 51 = .ok (.aload_n 0, 1) := by decide +kernel
theorem dX5_next_52 : decode cX5_next 52 = .ok (.getfield 7, 3) := by decide +kernel
theorem dX5_next_55 : decode cX5_next 55 = .ok (.iconst 5, 1) := by decide +kernel
theorem dX5_next_56 : decode cX5_next 56 = .ok (.iaload, 1) := by decide +kernel
theorem dX5_next_57 : decode cX5_next 57 = .ok (.i2l, 1) := by decide +kernel
theorem dX5_next_58 : decode cX5_next 58 = .ok (.lsub, 1) := by decide +kernel
theorem dX5_next_59 : decode cX5_next 59 = .ok (.lstore_n 2, 1) := by decide +kernel
theorem dX5_next_60 : decode cX5_next 60 = .ok (.lload_n 2, 1) := by decide +kernel
theorem dX5_next_61 : decode cX5_next 61 = .ok (.aload_n 0, 1) := by decide +kernel
theorem dX5_next_62 : decode cX5_next 62 = .ok (.getfield 7, 3) := by decide +kernel
theorem dX5_next_65 : decode cX5_next 65 = .ok (.iconst 0, 1) := by decide +kernel
theorem dX5_next_66 : decode cX5_next 66 = .ok (.iaload, 1) := by decide +kernel
theorem dX5_next_67 : decode cX5_next 67 = .ok (.i2l, 1) := by decide +kernel
theorem dX5_next_68 : decode cX5_next 68 = .ok (.lcmp, 1) := by decide +kernel
theorem dX5_next_69 : decode cX5_next 69 = .ok (.ifCond .ge 8, 3) := by decide +kernel
theorem dX5_next_72 : decode cX5_next 72 = .ok (.lload_n 2, 1) := by decide +kernel
theorem dX5_next_73 : decode cX5_next 73 = .ok (.l2i, 1) := by decide +kernel
theorem dX5_next_74 : decode cX5_next 74 = .ok (.goto 4, 3) := by decide +kernel
theorem dX5_next_77 : decode cX5_next 77 = .ok (.iconst (-1), 1) := by decide +kernel
theorem dX5_next_78 : decode cX5_next 78 = .ok (.ireturn, 1) := by decide +kernel
set_option maxRecDepth 20000 in
theorem ggX5_headAt_X5_linkOf : GoodIn wsX5_headAt wsX5_linkOf := goodIn_r _ [5, 6, 7, 8, 9, 10, 11, 12, 13, 14, 15, 16, 17, 18, 19, 20, 21, 22, 23, 24, 25, 26, 27, 28, 29, 30, 31, 32, 33, 34, 35, 36, 37, 38, 39, 40, 41, 42, 43, 44, 45, 46, 47, 48] (by decide +kernel) (by decide +kernel)
set_option maxRecDepth 20000 in
theorem gX5_headAt_X5_linkOf : GoodIn wsX5_headAt (wsV RX5 215 RX5 yX5_linkOf wsX5_linkOf) := goodIn_app (goodIn_of _ (by decide +kernel)) ggX5_headAt_X5_linkOf
theorem dX5_headAt_0 : decode cX5_headAt 0 = .ok (.aload_n 0, 1) := by decide +kernel
theorem dX5_headAt_1 : decode cX5_headAt 1 = .ok (.iload_n 1, 1) := by decide +kernel
theorem dX5_headAt_2 : decode cX5_headAt 2 = .ok (.invokevirtual 215, 3) := by decide +kernel
theorem dX5_headAt_5 : decode cX5_headAt 5 = .ok (.istore_n 2, 1) := by decide +kernel
theorem dX5_headAt_6 : decode cX5_headAt 6 = .ok (.iload_n 2, 1) := by decide +kernel
theorem dX5_headAt_7 : decode cX5_headAt 7 = .ok (.sipush 1000, 3) := by decide +kernel
theorem dX5_headAt_10 : decode cX5_headAt 10 = .ok (.if_icmp .ge 15, 3) := by decide +kernel
theorem dX5_headAt_13 : decode cX5_headAt 13 = .ok (.iload_n 2, 1) := by decide +kernel
theorem dX5_headAt_14 : decode cX5_headAt 14 = .ok (.iconst 3, 1) := by decide +kernel
theorem dX5_headAt_15 : decode cX5_headAt 15 = .ok (.irem, 1) := by decide +kernel
theorem dX5_headAt_16 : decode cX5_headAt 16 = .ok (.ifCond .ne 9, 3) := by decide +kernel
theorem dX5_headAt_19 : decode cX5_headAt 19 = .ok (.iload_n 2, 1) := by decide +kernel
theorem dX5_headAt_20 : decode cX5_headAt 20 = .ok (.iconst 3, 1) := by decide +kernel
theorem dX5_headAt_21 : decode cX5_headAt 21 = .ok (.idiv, 1) := by decide +kernel
theorem dX5_headAt_22 : decode cX5_headAt 22 = .ok (.goto 4, 3) := by decide +kernel
theorem dX5_headAt_25 : decode cX5_headAt 25 = .ok (.iconst (-1), 1) := by decide +kernel
theorem dX5_headAt_26 : decode cX5_headAt 26 = .ok (.ireturn, 1) := by decide +kernel
set_option maxRecDepth 20000 in
theorem ggX5_numberAt_X5_headAt : GoodIn wsX5_numberAt wsX5_headAt := goodIn_r _ [5, 6, 7, 8, 4, 9, 10, 15, 16, 17, 18, 19, 20, 21, 22, 23, 24, 25, 26, 27, 28, 29, 30, 31, 32, 33, 34, 35, 36, 37, 38, 39, 40, 41, 42, 43, 44, 45, 46, 47, 48, 49, 50, 51, 52, 53, 54, 55, 56] (by decide +kernel) (by decide +kernel)
set_option maxRecDepth 20000 in
theorem gX5_numberAt_X5_headAt : GoodIn wsX5_numberAt (wsV RX5 271 RX5 yX5_headAt wsX5_headAt) := goodIn_app (goodIn_of _ (by decide +kernel)) ggX5_numberAt_X5_headAt
set_option maxRecDepth 20000 in
theorem ggX5_numberAt_X5_kindOf : GoodIn wsX5_numberAt wsX5_kindOf := goodIn_r _ [14, 10, 15, 16, 17, 18, 19, 20, 21, 22, 23, 24, 25, 26, 27, 28, 29, 30, 31, 32, 33, 34, 35, 36, 37, 38, 39, 40, 41, 42, 43, 44, 45, 46, 47, 48, 49, 50, 51, 52, 53, 54, 55, 56] (by decide +kernel) (by decide +kernel)
set_option maxRecDepth 20000 in
theorem gX5_numberAt_X5_kindOf : GoodIn wsX5_numberAt (wsV RX5 224 RX5 yX5_kindOf wsX5_kindOf) := goodIn_app (goodIn_of _ (by decide +kernel)) ggX5_numberAt_X5_kindOf
theorem dX5_numberAt_0 : decode cX5_numberAt 0 = .ok (.iconst 0, 1) := by decide +kernel
theorem dX5_numberAt_1 : decode cX5_numberAt 1 = .ok (.istore_n 2, 1) := by decide +kernel
theorem dX5_numberAt_2 : decode cX5_numberAt 2 = .ok (.aload_n 0, 1) := by decide +kernel
theorem dX5_numberAt_3 : decode cX5_numberAt 3 = .ok (.iload_n 1, 1) := by decide +kernel
theorem dX5_numberAt_4 : decode cX5_numberAt 4 = .ok (.invokevirtual 271, 3) := by decide +kernel
theorem dX5_numberAt_7 : decode cX5_numberAt 7 = .ok (.istore_n 3, 1) := by decide +kernel
theorem dX5_numberAt_8 : decode cX5_numberAt 8 = .ok (.iload_n 3, 1) := by decide +kernel
theorem dX5_numberAt_9 : decode cX5_numberAt 9 = .ok (.iconst (-1), 1) := by decide +kernel
theorem dX5_numberAt_10 : decode cX5_numberAt 10 = .ok (.if_icmp .eq 57, 3) := by decide +kernel
theorem dX5_numberAt_13 : decode cX5_numberAt 13 = .ok (.aload_n 0, 1) := by decide +kernel
theorem dX5_numberAt_14 : decode cX5_numberAt 14 = .ok (.iload_n 3, 1) := by decide +kernel
theorem dX5_numberAt_15 : decode cX5_numberAt 15 = .ok (.invokevirtual 224, 3) := by decide +kernel
theorem dX5_numberAt_18 : decode cX5_numberAt 18 = .ok (.iconst 1, 1) := by decide +kernel
theorem dX5_numberAt_19 : decode cX5_numberAt 19 = .ok (.if_icmp .ne 48, 3) := by decide +kernel
theorem dX5_numberAt_22 : decode cX5_numberAt 22 = .ok (.aload_n 0, 1) := by decide +kernel
theorem dX5_numberAt_23 : decode cX5_numberAt 23 = .ok (.iconst 3, 1) := by decide +kernel
theorem dX5_numberAt_24 : decode cX5_numberAt 24 = .ok (.iload_n 3, 1) := by decide +kernel
theorem dX5_numberAt_25 : decode cX5_numberAt 25 = .ok (.imul, 1) := by decide +kernel
theorem dX5_numberAt_26 : decode cX5_numberAt 26 = .ok (.iconst 1, 1) := by decide +kernel
theorem dX5_numberAt_27 : decode cX5_numberAt 27 = .ok (.iadd, 1) := by decide +kernel
theorem dX5_numberAt_28 : decode cX5_numberAt 28 = .ok (.invokevirtual 271, 3) := by decide +kernel
theorem dX5_numberAt_31 : decode cX5_numberAt 31 = .ok (.istore 4, 2) := by decide +kernel
theorem dX5_numberAt_33 : decode cX5_numberAt 33 = .ok (.iload 4, 2) := by decide +kernel
theorem dX5_numberAt_35 : decode cX5_numberAt 35 = .ok (.iconst (-1), 1) := by decide +kernel
theorem dX5_numberAt_36 : decode cX5_numberAt 36 = .ok (.if_icmp .eq 12, 3) := by decide +kernel
theorem dX5_numberAt_39 : decode cX5_numberAt 39 = .ok (.aload_n 0, 1) := by decide +kernel
theorem dX5_numberAt_40 : decode cX5_numberAt 40 = .ok (.iload 4, 2) := by decide +kernel
theorem dX5_numberAt_42 : decode cX5_numberAt 42 = .ok (.invokevirtual 224, 3) := by decide +kernel
theorem dX5_numberAt_45 : decode cX5_numberAt 45 = .ok (.ifCond .eq 6, 3) := by decide +kernel
theorem dX5_numberAt_48 : decode cX5_numberAt 48 = .ok (.bipush (-2), 2) := by decide +kernel
theorem dX5_numberAt_50 : decode cX5_numberAt 50 = .ok (.ireturn, 1) := by decide +kernel
theorem dX5_numberAt_51 : decode cX5_numberAt 51 = .ok (.iinc 2 1, 3) := by decide +kernel
theorem dX5_numberAt_54 : decode cX5_numberAt 54 = .ok (.aload_n 0, 1) := by decide +kernel
theorem dX5_numberAt_55 : decode cX5_numberAt 55 = .ok (.iconst 3, 1) := by decide +kernel
theorem dX5_numberAt_56 : decode cX5_numberAt 56 = .ok (.iload_n 3, 1) := by decide +kernel
theorem dX5_numberAt_57 : decode cX5_numberAt 57 = .ok (.imul, 1) := by decide +kernel
theorem dX5_numberAt_58 : decode cX5_numberAt 58 = .ok (.iconst 2, 1) := by decide +kernel
theorem dX5_numberAt_59 : decode cX5_numberAt 59 = .ok (.iadd, 1) := by decide +kernel
theorem dX5_numberAt_60 : decode cX5_numberAt 60 = .ok (.invokevirtual 271, 3) := by decide +kernel
theorem dX5_numberAt_63 : decode cX5_numberAt 63 = .ok (.istore_n 3, 1) := by decide +kernel
theorem dX5_numberAt_64 : decode cX5_numberAt 64 = .ok (.goto (-56), 3) := by decide +kernel
theorem dX5_numberAt_67 : decode cX5_numberAt 67 = .ok (.iload_n 3, 1) := by decide +kernel
theorem dX5_numberAt_68 : decode cX5_numberAt 68 = .ok (.iconst (-1), 1) := by decide +kernel
theorem dX5_numberAt_69 : decode cX5_numberAt 69 = .ok (.if_icmp .eq 11, 3) := by decide +kernel
theorem dX5_numberAt_72 : decode cX5_numberAt 72 = .ok (.aload_n 0, 1) := by decide +kernel
theorem dX5_numberAt_73 : decode cX5_numberAt 73 = .ok (.iload_n 3, 1) := by decide +kernel
theorem dX5_numberAt_74 : decode cX5_numberAt 74 = .ok (.invokevirtual 224, 3) := by decide +kernel
theorem dX5_numberAt_77 : decode cX5_numberAt 77 = .ok (.ifCond .eq 8, 3) := by decide +kernel
theorem dX5_numberAt_80 : decode cX5_numberAt 80 = .ok (.bipush (-2), 2) := by decide +kernel
theorem dX5_numberAt_82 : decode cX5_numberAt 82 = .ok (.goto 4, 3) := by decide +kernel
theorem dX5_numberAt_85 : decode cX5_numberAt 85 = .ok (.iload_n 2, 1) := by decide +kernel
theorem dX5_numberAt_86 : decode cX5_numberAt 86 = .ok (.ireturn, 1) := by decide +kernel
set_option maxRecDepth 20000 in
theorem ggX5_number__X5_isRoot : GoodIn wsX5_number_ wsX5_isRoot := goodIn_r _ [6, 7, 8, 9, 5, 10, 27, 28, 29, 30, 31, 32, 33, 34, 35, 36, 37, 38, 39, 40, 41, 42, 43, 44, 45, 46, 47, 48, 49, 50, 51, 52, 53, 54, 55, 56, 57, 58, 59, 60, 61, 62, 63, 64, 65, 66, 67, 68] (by decide +kernel) (by decide +kernel)
set_option maxRecDepth 20000 in
theorem gX5_number__X5_isRoot : GoodIn wsX5_number_ (wsV RX5 268 RX5 yX5_isRoot wsX5_isRoot) := goodIn_app (goodIn_of _ (by decide +kernel)) ggX5_number__X5_isRoot
set_option maxRecDepth 20000 in
theorem ggX5_number__X5_numberAt : GoodIn wsX5_number_ wsX5_numberAt := goodIn_r _ [14, 15, 16, 17, 5, 18, 19, 20, 21, 22, 7, 23, 24, 25, 26, 27, 28, 29, 30, 31, 32, 33, 34, 35, 36, 37, 38, 39, 40, 41, 42, 43, 44, 45, 46, 47, 48, 49, 50, 51, 52, 53, 54, 55, 56, 57, 58, 59, 60, 61, 62, 63, 64, 65, 66, 67, 68] (by decide +kernel) (by decide +kernel)
set_option maxRecDepth 20000 in
theorem gX5_number__X5_numberAt : GoodIn wsX5_number_ (wsV RX5 274 RX5 yX5_numberAt wsX5_numberAt) := goodIn_app (goodIn_of _ (by decide +kernel)) ggX5_number__X5_numberAt
theorem dX5_number__0 : decode cX5_number_ 0 = .ok (.aload_n 0, 1) := by decide +kernel
theorem dX5_number__1 : decode cX5_number_ 1 = .ok (.aload_n 0, 1) := by decide +kernel
theorem dX5_number__2 : decode cX5_number_ 2 = .ok (.iload_n 1, 1) := by decide +kernel
theorem dX5_number__3 : decode cX5_number_ 3 = .ok (.invokevirtual 268, 3) := by decide +kernel
theorem dX5_number__6 : decode cX5_number_ 6 = .ok (.ifCond .eq 7, 3) := by decide +kernel
theorem dX5_number__9 : decode cX5_number_ 9 = .ok (.iconst 0, 1) := by decide +kernel
theorem dX5_number__10 : decode cX5_number_ 10 = .ok (.goto 4, 3) := by decide +kernel
theorem dX5_number__13 : decode cX5_number_ 13 = .ok (.iconst 1, 1) := by decide +kernel
theorem dX5_number__14 : decode cX5_number_ 14 = .ok (.putfield 1, 3) := by decide +kernel
theorem dX5_number__17 : decode cX5_number_ 17 = .ok (.aload_n 0, 1) := by decide +kernel
theorem dX5_number__18 : decode cX5_number_ 18 = .ok (.getfield 1, 3) := by decide +kernel
theorem dX5_number__21 : decode cX5_number_ 21 = .ok (.ifCond .le 7, 3) := by decide +kernel
theorem dX5_number__24 : decode cX5_number_ 24 = .ok (.iconst 0, 1) := by decide +kernel
theorem dX5_number__25 : decode cX5_number_ 25 = .ok (.goto 12, 3) := by decide +kernel
theorem dX5_number__28 : decode cX5_number_ 28 = .ok (.aload_n 0, 1) := by decide +kernel
theorem dX5_number__29 : decode cX5_number_ 29 = .ok (.sipush 1000, 3) := by decide +kernel
theorem dX5_number__32 : decode cX5_number_ 32 = .ok (.iload_n 1, 1) := by decide +kernel
theorem dX5_number__33 : decode cX5_number_ 33 = .ok (.iadd, 1) := by decide +kernel
theorem dX5_number__34 : decode cX5_number_ 34 = .ok (.invokevirtual 274, 3) := by decide +kernel
theorem dX5_number__37 : decode cX5_number_ 37 = .ok (.ireturn, 1) := by decide +kernel
set_option maxRecDepth 20000 in
theorem ggX5_list__X5_isRoot : GoodIn wsX5_list_ wsX5_isRoot := goodIn_r _ [6, 7, 8, 9, 5, 10, 27, 28, 29, 30, 31, 32, 33, 34, 35, 36, 37, 38, 39, 40, 41, 42, 43, 44, 45, 46, 47, 48, 49, 50, 51, 52, 53, 54, 55, 56, 57, 58, 59, 60, 61, 62, 63, 64, 65, 66, 67, 68] (by decide +kernel) (by decide +kernel)
set_option maxRecDepth 20000 in
theorem gX5_list__X5_isRoot : GoodIn wsX5_list_ (wsV RX5 268 RX5 yX5_isRoot wsX5_isRoot) := goodIn_app (goodIn_of _ (by decide +kernel)) ggX5_list__X5_isRoot
set_option maxRecDepth 20000 in
theorem ggX5_list__X5_headAt : GoodIn wsX5_list_ wsX5_headAt := goodIn_r _ [14, 15, 16, 17, 5, 18, 7, 27, 28, 29, 30, 31, 32, 33, 34, 35, 36, 37, 38, 39, 40, 41, 42, 43, 44, 45, 46, 47, 48, 49, 50, 51, 52, 53, 54, 55, 56, 57, 58, 59, 60, 61, 62, 63, 64, 65, 66, 67, 68] (by decide +kernel) (by decide +kernel)
set_option maxRecDepth 20000 in
theorem gX5_list__X5_headAt : GoodIn wsX5_list_ (wsV RX5 271 RX5 yX5_headAt wsX5_headAt) := goodIn_app (goodIn_of _ (by decide +kernel)) ggX5_list__X5_headAt
set_option maxRecDepth 20000 in
theorem ggX5_list__X5_kindOf : GoodIn wsX5_list_ wsX5_kindOf := goodIn_r _ [22, 7, 27, 28, 29, 30, 31, 32, 33, 34, 35, 36, 37, 38, 39, 40, 41, 42, 43, 44, 45, 46, 47, 48, 49, 50, 51, 52, 53, 54, 55, 56, 57, 58, 59, 60, 61, 62, 63, 64, 65, 66, 67, 68] (by decide +kernel) (by decide +kernel)
set_option maxRecDepth 20000 in
theorem gX5_list__X5_kindOf : GoodIn wsX5_list_ (wsV RX5 224 RX5 yX5_kindOf wsX5_kindOf) := goodIn_app (goodIn_of _ (by decide +kernel)) ggX5_list__X5_kindOf
set_option maxRecDepth 20000 in
theorem ggX5_list__X5_numberAt : GoodIn wsX5_list_ wsX5_numberAt := goodIn_r _ [26, 11, 12, 13, 5, 14, 15, 16, 17, 18, 7, 19, 20, 21, 22, 27, 28, 29, 30, 31, 32, 33, 34, 35, 36, 37, 38, 39, 40, 41, 42, 43, 44, 45, 46, 47, 48, 49, 50, 51, 52, 53, 54, 55, 56, 57, 58, 59, 60, 61, 62, 63, 64, 65, 66, 67, 68] (by decide +kernel) (by decide +kernel)
set_option maxRecDepth 20000 in
theorem gX5_list__X5_numberAt : GoodIn wsX5_list_ (wsV RX5 274 RX5 yX5_numberAt wsX5_numberAt) := goodIn_app (goodIn_of _ (by decide +kernel)) ggX5_list__X5_numberAt
theorem dX5_list__0 : decode cX5_list_ 0 = .ok (.aload_n 0, 1) := by decide +kernel
theorem dX5_list__1 : decode cX5_list_ 1 = .ok (.aload_n 0, 1) := by decide +kernel
theorem dX5_list__2 : decode cX5_list_ 2 = .ok (.iload_n 1, 1) := by decide +kernel
theorem dX5_list__3 : decode cX5_list_ 3 = .ok (.invokevirtual 268, 3) := by decide +kernel
theorem dX5_list__6 : decode cX5_list_ 6 = .ok (.ifCond .eq 7, 3) := by decide +kernel
theorem dX5_list__9 : decode cX5_list_ 9 = .ok (.iconst 0, 1) := by decide +kernel
theorem dX5_list__10 : decode cX5_list_ 10 = .ok (.goto 4, 3) := by decide +kernel
theorem dX5_list__13 : decode cX5_list_ 13 = .ok (.iconst 1, 1) := by decide +kernel
theorem dX5_list__14 : decode cX5_list_ 14 = .ok (.putfield 1, 3) := by decide +kernel
theorem dX5_list__17 : decode cX5_list_ 17 = .ok (.aload_n 0, 1) := by decide +kernel
theorem dX5_list__18 : decode cX5_list_ 18 = .ok (.getfield 1, 3) := by decide +kernel
theorem dX5_list__21 : decode cX5_list_ 21 = .ok (.ifCond .le 5, 3) := by decide +kernel
theorem dX5_list__24 : decode cX5_list_ 24 = .ok (.iconst 0, 1) := by decide +kernel
theorem dX5_list__25 : decode cX5_list_ 25 = .ok (.ireturn, 1) := by decide +kernel
theorem dX5_list__26 : decode cX5_list_ 26 = .ok (.iconst 0, 1) := by decide +kernel
theorem dX5_list__27 : decode cX5_list_ 27 = .ok (.istore_n 3, 1) := by decide +kernel
theorem dX5_list__28 : decode cX5_list_ 28 = .ok (.bipush (-2), 2) := by decide +kernel
theorem dX5_list__30 : decode cX5_list_ 30 = .ok (.istore 4, 2) := by decide +kernel
theorem dX5_list__32 : decode cX5_list_ 32 = .ok (.aload_n 0, 1) := by decide +kernel
theorem dX5_list__33 : decode cX5_list_ 33 = .ok (.sipush 1000, 3) := by decide +kernel
theorem dX5_list__36 : decode cX5_list_ 36 = .ok (.iload_n 1, 1) := by decide +kernel
theorem dX5_list__37 : decode cX5_list_ 37 = .ok (.iadd, 1) := by decide +kernel
theorem dX5_list__38 : decode cX5_list_ 38 = .ok (.invokevirtual 271, 3) := by decide +kernel
theorem dX5_list__41 : decode cX5_list_ 41 = .ok (.istore 5, 2) := by decide +kernel
theorem dX5_list__43 : decode cX5_list_ 43 = .ok (.iload 5, 2) := by decide +kernel
theorem dX5_list__45 : decode cX5_list_ 45 = .ok (.iconst (-1), 1) := by decide +kernel
theorem dX5_list__46 : decode cX5_list_ 46 = .ok (.if_icmp .eq 67, 3) := by decide +kernel
theorem dX5_list__49 : decode cX5_list_ 49 = .ok (.aload_n 0, 1) := by decide +kernel
theorem dX5_list__50 : decode cX5_list_ 50 = .ok (.iload 5, 2) := by decide +kernel
theorem dX5_list__52 : decode cX5_list_ 52 = .ok (.invokevirtual 224, 3) := by decide +kernel
theorem dX5_list__55 : decode cX5_list_ 55 = .ok (.iconst 1, 1) := by decide +kernel
theorem dX5_list__56 : decode cX5_list_ 56 = .ok (.if_icmp .ne 57, 3) := by decide +kernel
theorem dX5_list__59 : decode cX5_list_ 59 = .ok (.aload_n 0, 1) := by decide +kernel
theorem dX5_list__60 : decode cX5_list_ 60 = .ok (.iconst 3, 1) := by decide +kernel
theorem dX5_list__61 : decode cX5_list_ 61 = .ok (.iload 5, 2) := by decide +kernel
theorem dX5_list__63 : decode cX5_list_ 63 = .ok (.imul, 1) := by decide +kernel
theorem dX5_list__64 : decode cX5_list_ 64 = .ok (.iconst 1, 1) := by decide +kernel
theorem dX5_list__65 : decode cX5_list_ 65 = .ok (.iadd, 1) := by decide +kernel
theorem dX5_list__66 : decode cX5_list_ 66 = .ok (.invokevirtual 274, 3) := by decide +kernel
theorem dX5_list__69 : decode cX5_list_ 69 = .ok (.istore 6, 2) := by decide +kernel
theorem dX5_list__71 : decode cX5_list_ 71 = .ok (.iload 6, 2) := by decide +kernel
theorem dX5_list__73 : decode cX5_list_ 73 = .ok (.bipush (-2), 2) := by decide +kernel
theorem dX5_list__75 : decode cX5_list_ 75 = .ok (.if_icmp .ne 6, 3) := by decide +kernel
theorem dX5_list__78 : decode cX5_list_ 78 = .ok (.bipush (-2), 2) := by decide +kernel
theorem dX5_list__80 : decode cX5_list_ 80 = .ok (.ireturn, 1) := by decide +kernel
theorem dX5_list__81 : decode cX5_list_ 81 = .ok (.iload_n 3, 1) := by decide +kernel
theorem dX5_list__82 : decode cX5_list_ 82 = .ok (.iload_n 2, 1) := by decide +kernel
theorem dX5_list__83 : decode cX5_list_ 83 = .ok (.if_icmp .ne 8, 3) := by decide +kernel
theorem dX5_list__86 : decode cX5_list_ 86 = .ok (.iload 6, 2) := by decide +kernel
theorem dX5_list__88 : decode cX5_list_ 88 = .ok (.goto 5, 3) := by decide +kernel
theorem dX5_list__91 : decode cX5_list_ 91 = .ok (.iload 4, 2) := by decide +kernel
theorem dX5_list__93 : decode cX5_list_ 93 = .ok (.istore 4, 2) := by decide +kernel
theorem dX5_list__95 : decode cX5_list_ 95 = .ok (.iinc 3 1, 3) := by decide +kernel
theorem dX5_list__98 : decode cX5_list_ 98 = .ok (.aload_n 0, 1) := by decide +kernel
theorem dX5_list__99 : decode cX5_list_ 99 = .ok (.iconst 3, 1) := by decide +kernel
theorem dX5_list__100 : decode cX5_list_ 100 = .ok (.iload 5, 2) := by decide +kernel
theorem dX5_list__102 : decode cX5_list_ 102 = .ok (.imul, 1) := by decide +kernel
theorem dX5_list__103 : decode cX5_list_ 103 = .ok (.iconst 2, 1) := by decide +kernel
theorem dX5_list__104 : decode cX5_list_ 104 = .ok (.iadd, 1) := by decide +kernel
theorem dX5_list__105 : decode cX5_list_ 105 = .ok (.invokevirtual 271, 3) := by decide +kernel
theorem dX5_list__108 : decode cX5_list_ 108 = .ok (.istore 5, 2) := by decide +kernel
theorem dX5_list__110 : decode cX5_list_ 110 = .ok (.goto (-67), 3) := by decide +kernel
theorem dX5_list__113 : decode cX5_list_ 113 = .ok (.iload 5, 2) := by decide +kernel
theorem dX5_list__115 : decode cX5_list_ 115 = .ok (.iconst (-1), 1) := by decide +kernel
theorem dX5_list__116 : decode cX5_list_ 116 = .ok (.if_icmp .eq 12, 3) := by decide +kernel
theorem dX5_list__119 : decode cX5_list_ 119 = .ok (.aload_n 0, 1) := by decide +kernel
theorem dX5_list__120 : decode cX5_list_ 120 = .ok (.iload 5, 2) := by decide +kernel
theorem dX5_list__122 : decode cX5_list_ 122 = .ok (.invokevirtual 224, 3) := by decide +kernel
theorem dX5_list__125 : decode cX5_list_ 125 = .ok (.ifCond .eq 6, 3) := by decide +kernel
theorem dX5_list__128 : decode cX5_list_ 128 = .ok (.bipush (-2), 2) := by decide +kernel
theorem dX5_list__130 : decode cX5_list_ 130 = .ok (.ireturn, 1) := by decide +kernel
theorem dX5_list__131 : decode cX5_list_ 131 = .ok (.iload_n 2, 1) := by decide +kernel
theorem dX5_list__132 : decode cX5_list_ 132 = .ok (.iconst (-1), 1) := by decide +kernel
theorem dX5_list__133 : decode cX5_list_ 133 = .ok (.if_icmp .ne 7, 3) := by decide +kernel
theorem dX5_list__136 : decode cX5_list_ 136 = .ok (.iload_n 3, 1) := by decide +kernel
theorem dX5_list__137 : decode cX5_list_ 137 = .ok (.goto 5, 3) := by decide +kernel
theorem dX5_list__140 : decode cX5_list_ 140 = .ok (.iload 4, 2) := by decide +kernel
theorem dX5_list__142 : decode cX5_list_ 142 = .ok (.ireturn, 1) := by decide +kernel
theorem dX5_tells_0 : decode cX5_tells 0 = .ok (.aload_n 0, 1) := by decide +kernel
theorem dX5_tells_1 : decode cX5_tells 1 = .ok (.getfield 64, 3) := by decide +kernel
theorem dX5_tells_4 : decode cX5_tells 4 = .ok (.aload_n 0, 1) := by decide +kernel
theorem dX5_tells_5 : decode cX5_tells 5 = .ok (.getfield 277, 3) := by decide +kernel
theorem dX5_tells_8 : decode cX5_tells 8 = .ok (.iload_n 1, 1) := by decide +kernel
theorem dX5_tells_9 : decode cX5_tells 9 = .ok (.iastore, 1) := by decide +kernel
theorem dX5_tells_10 : decode cX5_tells 10 = .ok (.aload_n 0, 1) := by decide +kernel
theorem dX5_tells_11 : decode cX5_tells 11 = .ok (.dup, 1) := by decide +kernel
theorem dX5_tells_12 : decode cX5_tells 12 = .ok (.getfield 277, 3) := by decide +kernel
theorem dX5_tells_15 : decode cX5_tells 15 = .ok (.iconst 1, 1) := by decide +kernel
theorem dX5_tells_16 : decode cX5_tells 16 = .ok (.iadd, 1) := by decide +kernel
theorem dX5_tells_17 : decode cX5_tells 17 = .ok (.putfield 277, 3) := by decide +kernel
theorem dX5_tells_20 : decode cX5_tells 20 = .ok (.return_, 1) := by decide +kernel
set_option maxRecDepth 20000 in
theorem ggX5_looks_X5_linkOf : GoodIn wsX5_looks wsX5_linkOf := goodIn_r _ [10, 11, 22, 23, 24, 25, 26, 27, 28, 29, 30, 31, 32, 33, 34, 35, 36, 37, 38, 39, 40, 41, 42, 43, 44, 45, 46, 47, 48, 49, 50, 51, 52, 53, 54, 55, 56, 57, 58, 59, 60, 61, 62, 63] (by decide +kernel) (by decide +kernel)
set_option maxRecDepth 20000 in
theorem gX5_looks_X5_linkOf : GoodIn wsX5_looks (wsV RX5 215 RX5 yX5_linkOf wsX5_linkOf) := goodIn_app (goodIn_of _ (by decide +kernel)) ggX5_looks_X5_linkOf
set_option maxRecDepth 20000 in
theorem ggX5_looks_X5_tells : GoodIn wsX5_looks wsX5_tells := goodIn_r _ [15, 16, 17, 22, 23, 24, 25, 26, 27, 28, 29, 30, 31, 32, 33, 34, 35, 36, 37, 38, 39, 40, 41, 42, 43, 44, 45, 46, 47, 48, 49, 50, 51, 52, 53, 54, 55, 56, 57, 58, 59, 60, 61, 62, 63] (by decide +kernel) (by decide +kernel)
set_option maxRecDepth 20000 in
theorem gX5_looks_X5_tells : GoodIn wsX5_looks (wsV RX5 280 RX5 yX5_tells wsX5_tells) := goodIn_app (goodIn_of _ (by decide +kernel)) ggX5_looks_X5_tells
set_option maxRecDepth 20000 in
theorem ggX5_looks_X5_kindOf : GoodIn wsX5_looks wsX5_kindOf := goodIn_r _ [21, 11, 22, 23, 24, 25, 26, 27, 28, 29, 30, 31, 32, 33, 34, 35, 36, 37, 38, 39, 40, 41, 42, 43, 44, 45, 46, 47, 48, 49, 50, 51, 52, 53, 54, 55, 56, 57, 58, 59, 60, 61, 62, 63] (by decide +kernel) (by decide +kernel)
set_option maxRecDepth 20000 in
theorem gX5_looks_X5_kindOf : GoodIn wsX5_looks (wsV RX5 224 RX5 yX5_kindOf wsX5_kindOf) := goodIn_app (goodIn_of _ (by decide +kernel)) ggX5_looks_X5_kindOf
theorem dX5_looks_0 : decode cX5_looks 0 = .ok (.aload_n 0, 1) := by decide +kernel
theorem dX5_looks_1 : decode cX5_looks 1 = .ok (.iload_n 1, 1) := by decide +kernel
theorem dX5_looks_2 : decode cX5_looks 2 = .ok (.invokevirtual 215, 3) := by decide +kernel
theorem dX5_looks_5 : decode cX5_looks 5 = .ok (.istore_n 3, 1) := by decide +kernel
theorem dX5_looks_6 : decode cX5_looks 6 = .ok (.iload_n 3, 1) := by decide +kernel
theorem dX5_looks_7 : decode cX5_looks 7 = .ok (.sipush 1000, 3) := by decide +kernel
theorem dX5_looks_10 : decode cX5_looks 10 = .ok (.if_icmp .lt 10, 3) := by decide +kernel
theorem dX5_looks_13 : decode cX5_looks 13 = .ok (.aload_n 0, 1) := by decide +kernel
theorem dX5_looks_14 : decode cX5_looks 14 = .ok (.iload_n 3, 1) := by decide +kernel
theorem dX5_looks_15 : decode cX5_looks 15 = .ok (.invokevirtual 280, 3) := by decide +kernel
theorem dX5_looks_18 : decode cX5_looks 18 = .ok (.iload_n 2, 1) := by decide +kernel
theorem dX5_looks_19 : decode cX5_looks 19 = .ok (.ireturn, 1) := by decide +kernel
theorem dX5_looks_20 : decode cX5_looks 20 = .ok (.iload_n 3, 1) := by decide +kernel
theorem dX5_looks_21 : decode cX5_looks 21 = .ok (.iconst 3, 1) := by decide +kernel
theorem dX5_looks_22 : decode cX5_looks 22 = .ok (.idiv, 1) := by decide +kernel
theorem dX5_looks_23 : decode cX5_looks 23 = .ok (.istore 4, 2) := by decide +kernel
theorem dX5_looks_25 : decode cX5_looks 25 = .ok (.aload_n 0, 1) := by decide +kernel
theorem dX5_looks_26 : decode cX5_looks 26 = .ok (.getfield 61, 3) := by decide +kernel
theorem dX5_looks_29 : decode cX5_looks 29 = .ok (.iload 4, 2) := by decide +kernel
theorem dX5_looks_31 : decode cX5_looks 31 = .ok (.iaload, 1) := by decide +kernel
theorem dX5_looks_32 : decode cX5_looks 32 = .ok (.iconst (-1), 1) := by decide +kernel
theorem dX5_looks_33 : decode cX5_looks 33 = .ok (.if_icmp .eq 26, 3) := by decide +kernel
theorem dX5_looks_36 : decode cX5_looks 36 = .ok (.aload_n 0, 1) := by decide +kernel
theorem dX5_looks_37 : decode cX5_looks 37 = .ok (.sipush 10000, 3) := by decide +kernel
theorem dX5_looks_40 : decode cX5_looks 40 = .ok (.iconst 3, 1) := by decide +kernel
theorem dX5_looks_41 : decode cX5_looks 41 = .ok (.aload_n 0, 1) := by decide +kernel
theorem dX5_looks_42 : decode cX5_looks 42 = .ok (.getfield 61, 3) := by decide +kernel
theorem dX5_looks_45 : decode cX5_looks 45 = .ok (.iload 4, 2) := by decide +kernel
theorem dX5_looks_47 : decode cX5_looks 47 = .ok (.iaload, 1) := by decide +kernel
theorem dX5_looks_48 : decode cX5_looks 48 = .ok (.imul, 1) := by decide +kernel
theorem dX5_looks_49 : decode cX5_looks 49 = .ok (.iadd, 1) := by decide +kernel
theorem dX5_looks_50 : decode cX5_looks 50 = .ok (.iload_n 3, 1) := by decide +kernel
theorem dX5_looks_51 : decode cX5_looks 51 = .ok (.iconst 3, 1) := by decide +kernel
theorem dX5_looks_52 : decode cX5_looks 52 = .ok (.irem, 1) := by decide +kernel
theorem dX5_looks_53 : decode cX5_looks 53 = .ok (.iadd, 1) := by decide +kernel
theorem dX5_looks_54 : decode cX5_looks 54 = .ok (.invokevirtual 280, 3) := by decide +kernel
theorem dX5_looks_57 : decode cX5_looks 57 = .ok (.iload_n 2, 1) := by decide +kernel
theorem dX5_looks_58 : decode cX5_looks 58 = .ok (.ireturn, 1) := by decide +kernel
theorem dX5_looks_59 : decode cX5_looks 59 = .ok (.aload_n 0, 1) := by decide +kernel
theorem dX5_looks_60 : decode cX5_looks 60 = .ok (.sipush 20000, 3) := by decide +kernel
theorem dX5_looks_63 : decode cX5_looks 63 = .ok (.iconst 3, 1) := by decide +kernel
theorem dX5_looks_64 : decode cX5_looks 64 = .ok (.aload_n 0, 1) := by decide +kernel
theorem dX5_looks_65 : decode cX5_looks 65 = .ok (.iload 4, 2) := by decide +kernel
theorem dX5_looks_67 : decode cX5_looks 67 = .ok (.invokevirtual 224, 3) := by decide +kernel
theorem dX5_looks_70 : decode cX5_looks 70 = .ok (.imul, 1) := by decide +kernel
theorem dX5_looks_71 : decode cX5_looks 71 = .ok (.iadd, 1) := by decide +kernel
theorem dX5_looks_72 : decode cX5_looks 72 = .ok (.iload_n 3, 1) := by decide +kernel
theorem dX5_looks_73 : decode cX5_looks 73 = .ok (.iconst 3, 1) := by decide +kernel
theorem dX5_looks_74 : decode cX5_looks 74 = .ok (.irem, 1) := by decide +kernel
theorem dX5_looks_75 : decode cX5_looks 75 = .ok (.iadd, 1) := by decide +kernel
theorem dX5_looks_76 : decode cX5_looks 76 = .ok (.invokevirtual 280, 3) := by decide +kernel
theorem dX5_looks_79 : decode cX5_looks 79 = .ok (.aload_n 0, 1) := by decide +kernel
theorem dX5_looks_80 : decode cX5_looks 80 = .ok (.getfield 61, 3) := by decide +kernel
theorem dX5_looks_83 : decode cX5_looks 83 = .ok (.iload 4, 2) := by decide +kernel
theorem dX5_looks_85 : decode cX5_looks 85 = .ok (.aload_n 0, 1) := by decide +kernel
theorem dX5_looks_86 : decode cX5_looks 86 = .ok (.getfield 283, 3) := by decide +kernel
theorem dX5_looks_89 : decode cX5_looks 89 = .ok (.iastore, 1) := by decide +kernel
theorem dX5_looks_90 : decode cX5_looks 90 = .ok (.aload_n 0, 1) := by decide +kernel
theorem dX5_looks_91 : decode cX5_looks 91 = .ok (.getfield 55, 3) := by decide +kernel
theorem dX5_looks_94 : decode cX5_looks 94 = .ok (.aload_n 0, 1) := by decide +kernel
theorem dX5_looks_95 : decode cX5_looks 95 = .ok (.getfield 283, 3) := by decide +kernel
theorem dX5_looks_98 : decode cX5_looks 98 = .ok (.iload 4, 2) := by decide +kernel
theorem dX5_looks_100 : decode cX5_looks 100 = .ok (.iastore, 1) := by decide +kernel
theorem dX5_looks_101 : decode cX5_looks 101 = .ok (.aload_n 0, 1) := by decide +kernel
theorem dX5_looks_102 : decode cX5_looks 102 = .ok (.getfield 58, 3) := by decide +kernel
theorem dX5_looks_105 : decode cX5_looks 105 = .ok (.aload_n 0, 1) := by decide +kernel
theorem dX5_looks_106 : decode cX5_looks 106 = .ok (.getfield 283, 3) := by decide +kernel
theorem dX5_looks_109 : decode cX5_looks 109 = .ok (.iload_n 3, 1) := by decide +kernel
theorem dX5_looks_110 : decode cX5_looks 110 = .ok (.iconst 3, 1) := by decide +kernel
theorem dX5_looks_111 : decode cX5_looks 111 = .ok (.irem, 1) := by decide +kernel
theorem dX5_looks_112 : decode cX5_looks 112 = .ok (.iastore, 1) := by decide +kernel
theorem dX5_looks_113 : decode cX5_looks 113 = .ok (.aload_n 0, 1) := by decide +kernel
theorem dX5_looks_114 : decode cX5_looks 114 = .ok (.dup, 1) := by decide +kernel
theorem dX5_looks_115 : decode cX5_looks 115 = .ok (.getfield 283, 3) := by decide +kernel
theorem dX5_looks_118 : decode cX5_looks 118 = .ok (.iconst 1, 1) := by decide +kernel
theorem dX5_looks_119 : decode cX5_looks 119 = .ok (.iadd, 1) := by decide +kernel
theorem dX5_looks_120 : decode cX5_looks 120 = .ok (.putfield 283, 3) := by decide +kernel
theorem dX5_looks_123 : decode cX5_looks 123 = .ok (.iload_n 2, 1) := by decide +kernel
theorem dX5_looks_124 : decode cX5_looks 124 = .ok (.istore 5, 2) := by decide +kernel
theorem dX5_looks_126 : decode cX5_looks 126 = .ok (.iconst 2, 1) := by decide +kernel
theorem dX5_looks_127 : decode cX5_looks 127 = .ok (.istore 6, 2) := by decide +kernel
theorem dX5_looks_129 : decode cX5_looks 129 = .ok (.iload 6, 2) := by decide +kernel
theorem dX5_looks_131 : decode cX5_looks 131 = .ok (.ifCond .lt 43, 3) := by decide +kernel
theorem dX5_looks_134 : decode cX5_looks 134 = .ok (.iload 6, 2) := by decide +kernel
theorem dX5_looks_136 : decode cX5_looks 136 = .ok (.iload_n 3, 1) := by decide +kernel
theorem dX5_looks_137 : decode cX5_looks 137 = .ok (.iconst 3, 1) := by decide +kernel
theorem dX5_looks_138 : decode cX5_looks 138 = .ok (.irem, 1) := by decide +kernel
theorem dX5_looks_139 : decode cX5_looks 139 = .ok (.if_icmp .eq 29, 3) := by decide +kernel
theorem dX5_looks_142 : decode cX5_looks 142 = .ok (.aload_n 0, 1) := by decide +kernel
theorem dX5_looks_143 : decode cX5_looks 143 = .ok (.iload 4, 2) := by decide +kernel
theorem dX5_looks_145 : decode cX5_looks 145 = .ok (.invokevirtual 224, 3) := by decide +kernel
theorem dX5_looks_148 : decode cX5_looks 148 = .ok (.ifCond .le 20, 3) := by decide +kernel
theorem dX5_looks_151 : decode cX5_looks 151 = .ok (.aload_n 0, 1) := by decide +kernel
theorem dX5_looks_152 : decode cX5_looks 152 = .ok (.getfield 67, 3) := by decide +kernel
theorem dX5_looks_155 : decode cX5_looks 155 = .ok (.iload 5, 2) := by decide +kernel
theorem dX5_looks_157 : decode cX5_looks 157 = .ok (.iconst 3, 1) := by decide +kernel
theorem dX5_looks_158 : decode cX5_looks 158 = .ok (.iload 4, 2) := by decide +kernel
theorem dX5_looks_160 : decode cX5_looks 160 = .ok (.imul, 1) := by decide +kernel
theorem dX5_looks_161 : decode cX5_looks 161 = .ok (.iload 6, 2) := by decide +kernel
theorem dX5_looks_163 : decode cX5_looks 163 = .ok (.iadd, 1) := by decide +kernel
theorem dX5_looks_164 : decode cX5_looks 164 = .ok (.iastore, 1) := by decide +kernel
theorem dX5_looks_165 : decode cX5_looks 165 = .ok (.iinc 5 1, 3) := by decide +kernel
theorem dX5_looks_168 : decode cX5_looks 168 = .ok (.iinc 6 (-1), 3) := by decide +kernel
theorem dX5_looks_171 : decode cX5_looks 171 = .ok (.goto (-42), 3) := by decide +kernel
theorem dX5_looks_174 : decode cX5_looks 174 = .ok (.iload 5, 2) := by decide +kernel
theorem dX5_looks_176 : decode cX5_looks 176 = .ok (.ireturn, 1) := by decide +kernel
