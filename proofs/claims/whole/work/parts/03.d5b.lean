set_option maxRecDepth 20000 in
theorem ggX5_list_X5_go : GoodIn wsX5_list wsX5_go := goodIn_r _ [10, 11, 1, 3, 12, 2, 13, 14, 15, 16, 9, 17, 18, 19, 20, 21, 22, 23, 24, 25, 56, 57, 58, 59, 60, 61, 62, 63, 64, 65, 66, 67, 68, 69, 70, 71, 72, 73, 74, 75, 76, 77, 78, 79, 80, 81, 82, 83, 84, 85, 86, 87, 88, 89, 90, 91, 92, 93, 94, 95, 96, 97] (by decide +kernel) (by decide +kernel)
set_option maxRecDepth 20000 in
theorem gX5_list_X5_go : GoodIn wsX5_list (wsV RX5 139 RX5 yX5_go wsX5_go) := goodIn_app (goodIn_of _ (by decide +kernel)) ggX5_list_X5_go
set_option maxRecDepth 20000 in
theorem ggX5_list_X5_bad : GoodIn wsX5_list wsX5_bad := goodIn_r _ [29, 1, 30, 31, 32, 9, 33, 34, 56, 57, 58, 59, 60, 61, 62, 63, 64, 65, 66, 67, 68, 69, 70, 71, 72, 73, 74, 75, 76, 77, 78, 79, 80, 81, 82, 83, 84, 85, 86, 87, 88, 89, 90, 91, 92, 93, 94, 95, 96, 97] (by decide +kernel) (by decide +kernel)
set_option maxRecDepth 20000 in
theorem gX5_list_X5_bad : GoodIn wsX5_list (wsV RX5 136 RX5 yX5_bad wsX5_bad) := goodIn_app (goodIn_of _ (by decide +kernel)) ggX5_list_X5_bad
set_option maxRecDepth 20000 in
theorem ggX5_list_X5_is : GoodIn wsX5_list wsX5_is := goodIn_r _ [38, 2, 3, 56, 57, 58, 59, 60, 61, 62, 63, 64, 65, 66, 67, 68, 69, 70, 71, 72, 73, 74, 75, 76, 77, 78, 79, 80, 81, 82, 83, 84, 85, 86, 87, 88, 89, 90, 91, 92, 93, 94, 95, 96, 97] (by decide +kernel) (by decide +kernel)
set_option maxRecDepth 20000 in
theorem gX5_list_X5_is : GoodIn wsX5_list (wsV RX5 133 RX5 yX5_is wsX5_is) := goodIn_app (goodIn_of _ (by decide +kernel)) ggX5_list_X5_is
set_option maxRecDepth 20000 in
theorem ggX5_list_X5_hasRoom : GoodIn wsX5_list wsX5_hasRoom := goodIn_r _ [42, 43, 56, 57, 58, 59, 60, 61, 62, 63, 64, 65, 66, 67, 68, 69, 70, 71, 72, 73, 74, 75, 76, 77, 78, 79, 80, 81, 82, 83, 84, 85, 86, 87, 88, 89, 90, 91, 92, 93, 94, 95, 96, 97] (by decide +kernel) (by decide +kernel)
set_option maxRecDepth 20000 in
theorem gX5_list_X5_hasRoom : GoodIn wsX5_list (wsV RX5 152 RX5 yX5_hasRoom wsX5_hasRoom) := goodIn_app (goodIn_of _ (by decide +kernel)) ggX5_list_X5_hasRoom
set_option maxRecDepth 20000 in
theorem ggX5_list_X5_badAt : GoodIn wsX5_list wsX5_badAt := goodIn_r _ [33, 34, 56, 57, 58, 59, 60, 61, 62, 63, 64, 65, 66, 67, 68, 69, 70, 71, 72, 73, 74, 75, 76, 77, 78, 79, 80, 81, 82, 83, 84, 85, 86, 87, 88, 89, 90, 91, 92, 93, 94, 95, 96, 97] (by decide +kernel) (by decide +kernel)
set_option maxRecDepth 20000 in
theorem gX5_list_X5_badAt : GoodIn wsX5_list (wsV RX5 129 RX5 yX5_badAt wsX5_badAt) := goodIn_app (goodIn_of _ (by decide +kernel)) ggX5_list_X5_badAt
set_option maxRecDepth 20000 in
theorem ggX5_list_X5_makes : GoodIn wsX5_list wsX5_makes := goodIn_r _ [47, 43, 56, 57, 58, 59, 60, 61, 62, 63, 64, 65, 66, 67, 68, 69, 70, 71, 72, 73, 74, 75, 76, 77, 78, 79, 80, 81, 82, 83, 84, 85, 86, 87, 88, 89, 90, 91, 92, 93, 94, 95, 96, 97] (by decide +kernel) (by decide +kernel)
set_option maxRecDepth 20000 in
theorem gX5_list_X5_makes : GoodIn wsX5_list (wsV RX5 155 RX5 yX5_makes wsX5_makes) := goodIn_app (goodIn_of _ (by decide +kernel)) ggX5_list_X5_makes
set_option maxRecDepth 20000 in
theorem ggX5_list_X5_makesNumber : GoodIn wsX5_list wsX5_makesNumber := goodIn_r _ [51, 44, 45, 46, 9, 47, 43, 52, 53, 54, 55, 56, 57, 58, 59, 60, 61, 62, 63, 64, 65, 66, 67, 68, 69, 70, 71, 72, 73, 74, 75, 76, 77, 78, 79, 80, 81, 82, 83, 84, 85, 86, 87, 88, 89, 90, 91, 92, 93, 94, 95, 96, 97] (by decide +kernel) (by decide +kernel)
set_option maxRecDepth 20000 in
theorem gX5_list_X5_makesNumber : GoodIn wsX5_list (wsV RX5 175 RX5 yX5_makesNumber wsX5_makesNumber) := goodIn_app (goodIn_of _ (by decide +kernel)) ggX5_list_X5_makesNumber
set_option maxRecDepth 20000 in
theorem ggX5_list_X5_links : GoodIn wsX5_list wsX5_links := goodIn_r _ [55, 43, 56, 57, 58, 59, 60, 61, 62, 63, 64, 65, 66, 67, 68, 69, 70, 71, 72, 73, 74, 75, 76, 77, 78, 79, 80, 81, 82, 83, 84, 85, 86, 87, 88, 89, 90, 91, 92, 93, 94, 95, 96, 97] (by decide +kernel) (by decide +kernel)
set_option maxRecDepth 20000 in
theorem gX5_list_X5_links : GoodIn wsX5_list (wsV RX5 172 RX5 yX5_links wsX5_links) := goodIn_app (goodIn_of _ (by decide +kernel)) ggX5_list_X5_links
theorem dX5_list_0 : decode cX5_list 0 = .ok (.aload_n 0, 1) := by decide +kernel
theorem dX5_list_1 : decode cX5_list 1 = .ok (.getfield 109, 3) := by decide +kernel
theorem dX5_list_4 : decode cX5_list 4 = .ok (.istore_n 1, 1) := by decide +kernel
theorem dX5_list_5 : decode cX5_list 5 = .ok (.aload_n 0, 1) := by decide +kernel
theorem dX5_list_6 : decode cX5_list 6 = .ok (.invokevirtual 139, 3) := by decide +kernel
theorem dX5_list_9 : decode cX5_list 9 = .ok (.iconst 0, 1) := by decide +kernel
theorem dX5_list_10 : decode cX5_list 10 = .ok (.istore_n 2, 1) := by decide +kernel
theorem dX5_list_11 : decode cX5_list 11 = .ok (.iconst 1, 1) := by decide +kernel
theorem dX5_list_12 : decode cX5_list 12 = .ok (.istore_n 3, 1) := by decide +kernel
theorem dX5_list_13 : decode cX5_list 13 = .ok (.aload_n 0, 1) := by decide +kernel
theorem dX5_list_14 : decode cX5_list 14 = .ok (.getfield 118, 3) := by decide +kernel
theorem dX5_list_17 : decode cX5_list 17 = .ok (.iconst 2, 1) := by decide +kernel
theorem dX5_list_18 : decode cX5_list 18 = .ok (.if_icmp .ne 61, 3) := by decide +kernel
theorem dX5_list_21 : decode cX5_list 21 = .ok (.aload_n 0, 1) := by decide +kernel
theorem dX5_list_22 : decode cX5_list 22 = .ok (.getfield 112, 3) := by decide +kernel
theorem dX5_list_25 : decode cX5_list 25 = .ok (.bipush 9, 2) := by decide +kernel
theorem dX5_list_27 : decode cX5_list 27 = .ok (.if_icmp .le 9, 3) := by decide +kernel
theorem dX5_list_30 : decode cX5_list 30 = .ok (.aload_n 0, 1) := by decide +kernel
theorem dX5_list_31 : decode cX5_list 31 = .ok (.iconst 3, 1) := by decide +kernel
theorem dX5_list_32 : decode cX5_list 32 = .ok (.invokevirtual 136, 3) := by decide +kernel
theorem dX5_list_35 : decode cX5_list 35 = .ok (.ireturn, 1) := by decide +kernel
theorem dX5_list_36 : decode cX5_list 36 = .ok (.iload_n 2, 1) := by decide +kernel
theorem dX5_list_37 : decode cX5_list 37 = .ok (.bipush 10, 2) := by decide +kernel
theorem dX5_list_39 : decode cX5_list 39 = .ok (.if_icmp .ne 9, 3) := by decide +kernel
theorem dX5_list_42 : decode cX5_list 42 = .ok (.aload_n 0, 1) := by decide +kernel
theorem dX5_list_43 : decode cX5_list 43 = .ok (.iconst 4, 1) := by decide +kernel
theorem dX5_list_44 : decode cX5_list 44 = .ok (.invokevirtual 136, 3) := by decide +kernel
theorem dX5_list_47 : decode cX5_list 47 = .ok (.ireturn, 1) := by decide +kernel
theorem dX5_list_48 : decode cX5_list 48 = .ok (.aload_n 0, 1) := by decide +kernel
theorem dX5_list_49 : decode cX5_list 49 = .ok (.getfield 30, 3) := by decide +kernel
theorem dX5_list_52 : decode cX5_list 52 = .ok (.iload_n 2, 1) := by decide +kernel
theorem dX5_list_53 : decode cX5_list 53 = .ok (.aload_n 0, 1) := by decide +kernel
theorem dX5_list_54 : decode cX5_list 54 = .ok (.getfield 112, 3) := by decide +kernel
theorem dX5_list_57 : decode cX5_list 57 = .ok (.iastore, 1) := by decide +kernel
theorem dX5_list_58 : decode cX5_list 58 = .ok (.iinc 2 1, 3) := by decide +kernel
theorem dX5_list_61 : decode cX5_list 61 = .ok (.iload_n 3, 1) := by decide +kernel
theorem dX5_list_62 : decode cX5_list 62 = .ok (.iconst 2, 1) := by decide +kernel
theorem dX5_list_63 : decode cX5_list 63 = .ok (.aload_n 0, 1) := by decide +kernel
theorem dX5_list_64 : decode cX5_list 64 = .ok (.getfield 112, 3) := by decide +kernel
theorem dX5_list_67 : decode cX5_list 67 = .ok (.imul, 1) := by decide +kernel
theorem dX5_list_68 : decode cX5_list 68 = .ok (.iconst 2, 1) := by decide +kernel
theorem dX5_list_69 : decode cX5_list 69 = .ok (.iadd, 1) := by decide +kernel
theorem dX5_list_70 : decode cX5_list 70 = .ok (.iadd, 1) := by decide +kernel
theorem dX5_list_71 : decode cX5_list 71 = .ok (.istore_n 3, 1) := by decide +kernel
theorem dX5_list_72 : decode cX5_list 72 = .ok (.aload_n 0, 1) := by decide +kernel
theorem dX5_list_73 : decode cX5_list 73 = .ok (.invokevirtual 139, 3) := by decide +kernel
theorem dX5_list_76 : decode cX5_list 76 = .ok (.goto (-63), 3) := by decide +kernel
theorem dX5_list_79 : decode cX5_list 79 = .ok (.aload_n 0, 1) := by decide +kernel
theorem dX5_list_80 : decode cX5_list 80 = .ok (.bipush 62, 2) := by decide +kernel
theorem dX5_list_82 : decode cX5_list 82 = .ok (.invokevirtual 133, 3) := by decide +kernel
theorem dX5_list_85 : decode cX5_list 85 = .ok (.ifCond .ne 9, 3) := by decide +kernel
theorem dX5_list_88 : decode cX5_list 88 = .ok (.aload_n 0, 1) := by decide +kernel
theorem dX5_list_89 : decode cX5_list 89 = .ok (.iconst 1, 1) := by decide +kernel
theorem dX5_list_90 : decode cX5_list 90 = .ok (.invokevirtual 136, 3) := by decide +kernel
theorem dX5_list_93 : decode cX5_list 93 = .ok (.ireturn, 1) := by decide +kernel
theorem dX5_list_94 : decode cX5_list 94 = .ok (.aload_n 0, 1) := by decide +kernel
theorem dX5_list_95 : decode cX5_list 95 = .ok (.iload_n 3, 1) := by decide +kernel
theorem dX5_list_96 : decode cX5_list 96 = .ok (.invokevirtual 152, 3) := by decide +kernel
theorem dX5_list_99 : decode cX5_list 99 = .ok (.ifCond .ne 10, 3) := by decide +kernel
theorem dX5_list_102 : decode cX5_list 102 = .ok (.aload_n 0, 1) := by decide +kernel
theorem dX5_list_103 : decode cX5_list 103 = .ok (.iload_n 1, 1) := by decide +kernel
theorem dX5_list_104 : decode cX5_list 104 = .ok (.iconst 5, 1) := by decide +kernel
theorem dX5_list_105 : decode cX5_list 105 = .ok (.invokevirtual 129, 3) := by decide +kernel
theorem dX5_list_108 : decode cX5_list 108 = .ok (.ireturn, 1) := by decide +kernel
theorem dX5_list_109 : decode cX5_list 109 = .ok (.iconst (-1), 1) := by decide +kernel
theorem dX5_list_110 : decode cX5_list 110 = .ok (.istore 4, 2) := by decide +kernel
theorem dX5_list_112 : decode cX5_list 112 = .ok (.iconst (-1), 1) := by decide +kernel
theorem dX5_list_113 : decode cX5_list 113 = .ok (.istore 5, 2) := by decide +kernel
theorem dX5_list_115 : decode cX5_list 115 = .ok (.iconst 0, 1) := by decide +kernel
theorem dX5_list_116 : decode cX5_list 116 = .ok (.istore 6, 2) := by decide +kernel
theorem dX5_list_118 : decode cX5_list 118 = .ok (.iload 6, 2) := by decide +kernel
theorem dX5_list_120 : decode cX5_list 120 = .ok (.iload_n 2, 1) := by decide +kernel
theorem dX5_list_121 : decode cX5_list 121 = .ok (.if_icmp .ge 70, 3) := by decide +kernel
theorem dX5_list_124 : decode cX5_list 124 = .ok (.aload_n 0, 1) := by decide +kernel
theorem dX5_list_125 : decode cX5_list 125 = .ok (.iconst 1, 1) := by decide +kernel
theorem dX5_list_126 : decode cX5_list 126 = .ok (.invokevirtual 155, 3) := by decide +kernel
theorem dX5_list_129 : decode cX5_list 129 = .ok (.istore 7, 2) := by decide +kernel
theorem dX5_list_131 : decode cX5_list 131 = .ok (.aload_n 0, 1) := by decide +kernel
theorem dX5_list_132 : decode cX5_list 132 = .ok (.iconst 3, 1) := by decide +kernel
theorem dX5_list_133 : decode cX5_list 133 = .ok (.iload 7, 2) := by decide +kernel
theorem dX5_list_135 : decode cX5_list 135 = .ok (.imul, 1) := by decide +kernel
theorem dX5_list_136 : decode cX5_list 136 = .ok (.iconst 1, 1) := by decide +kernel
theorem dX5_list_137 : decode cX5_list 137 = .ok (.iadd, 1) := by decide +kernel
theorem dX5_list_138 : decode cX5_list 138 = .ok (.aload_n 0, 1) := by decide +kernel
theorem dX5_list_139 : decode cX5_list 139 = .ok (.aload_n 0, 1) := by decide +kernel
theorem dX5_list_140 : decode cX5_list 140 = .ok (.getfield 30, 3) := by decide +kernel
theorem dX5_list_143 : decode cX5_list 143 = .ok (.iload 6, 2) := by decide +kernel
theorem dX5_list_145 : decode cX5_list 145 = .ok (.iaload, 1) := by decide +kernel
theorem dX5_list_146 : decode cX5_list 146 = .ok (.invokevirtual 175, 3) := by decide +kernel
theorem dX5_list_149 : decode cX5_list 149 = .ok (.invokevirtual 172, 3) := by decide +kernel
theorem dX5_list_152 : decode cX5_list 152 = .ok (.iload 4, 2) := by decide +kernel
theorem dX5_list_154 : decode cX5_list 154 = .ok (.iconst (-1), 1) := by decide +kernel
theorem dX5_list_155 : decode cX5_list 155 = .ok (.if_icmp .ne 12, 3) := by decide +kernel
theorem dX5_list_158 : decode cX5_list 158 = .ok (.iconst 3, 1) := by decide +kernel
theorem dX5_list_159 : decode cX5_list 159 = .ok (.iload 7, 2) := by decide +kernel
theorem dX5_list_161 : decode cX5_list 161 = .ok (.imul, 1) := by decide +kernel
theorem dX5_list_162 : decode cX5_list 162 = .ok (.istore 5, 2) := by decide +kernel
theorem dX5_list_164 : decode cX5_list 164 = .ok (.goto 13, 3) := by decide +kernel
theorem dX5_list_167 : decode cX5_list 167 = .ok (.aload_n 0, 1) := by decide +kernel
theorem dX5_list_168 : decode cX5_list 168 = .ok (.iload 4, 2) := by decide +kernel
theorem dX5_list_170 : decode cX5_list 170 = .ok (.iconst 3, 1) := by decide +kernel
theorem dX5_list_171 : decode cX5_list 171 = .ok (.iload 7, 2) := by decide +kernel
theorem dX5_list_173 : decode cX5_list 173 = .ok (.imul, 1) := by decide +kernel
theorem dX5_list_174 : decode cX5_list 174 = .ok (.invokevirtual 172, 3) := by decide +kernel
theorem dX5_list_177 : decode cX5_list 177 = .ok (.iconst 3, 1) := by decide +kernel
theorem dX5_list_178 : decode cX5_list 178 = .ok (.iload 7, 2) := by decide +kernel
theorem dX5_list_180 : decode cX5_list 180 = .ok (.imul, 1) := by decide +kernel
theorem dX5_list_181 : decode cX5_list 181 = .ok (.iconst 2, 1) := by decide +kernel
theorem dX5_list_182 : decode cX5_list 182 = .ok (.iadd, 1) := by decide +kernel
theorem dX5_list_183 : decode cX5_list 183 = .ok (.istore 4, 2) := by decide +kernel
theorem dX5_list_185 : decode cX5_list 185 = .ok (.iinc 6 1, 3) := by decide +kernel
theorem dX5_list_188 : decode cX5_list 188 = .ok (.goto (-70), 3) := by decide +kernel
theorem dX5_list_191 : decode cX5_list 191 = .ok (.aload_n 0, 1) := by decide +kernel
theorem dX5_list_192 : decode cX5_list 192 = .ok (.iconst 0, 1) := by decide +kernel
theorem dX5_list_193 : decode cX5_list 193 = .ok (.invokevirtual 155, 3) := by decide +kernel
theorem dX5_list_196 : decode cX5_list 196 = .ok (.istore 6, 2) := by decide +kernel
theorem dX5_list_198 : decode cX5_list 198 = .ok (.iload 4, 2) := by decide +kernel
theorem dX5_list_200 : decode cX5_list 200 = .ok (.iconst (-1), 1) := by decide +kernel
theorem dX5_list_201 : decode cX5_list 201 = .ok (.if_icmp .eq 13, 3) := by decide +kernel
theorem dX5_list_204 : decode cX5_list 204 = .ok (.aload_n 0, 1) := by decide +kernel
theorem dX5_list_205 : decode cX5_list 205 = .ok (.iload 4, 2) := by decide +kernel
theorem dX5_list_207 : decode cX5_list 207 = .ok (.iconst 3, 1) := by decide +kernel
theorem dX5_list_208 : decode cX5_list 208 = .ok (.iload 6, 2) := by decide +kernel
theorem dX5_list_210 : decode cX5_list 210 = .ok (.imul, 1) := by decide +kernel
theorem dX5_list_211 : decode cX5_list 211 = .ok (.invokevirtual 172, 3) := by decide +kernel
theorem dX5_list_214 : decode cX5_list 214 = .ok (.aload_n 0, 1) := by decide +kernel
theorem dX5_list_215 : decode cX5_list 215 = .ok (.iload 4, 2) := by decide +kernel
theorem dX5_list_217 : decode cX5_list 217 = .ok (.iconst (-1), 1) := by decide +kernel
theorem dX5_list_218 : decode cX5_list 218 = .ok (.if_icmp .ne 10, 3) := by decide +kernel
theorem dX5_list_221 : decode cX5_list 221 = .ok (.iconst 3, 1) := by decide +kernel
theorem dX5_list_222 : decode cX5_list 222 = .ok (.iload 6, 2) := by decide +kernel
theorem dX5_list_224 : decode cX5_list 224 = .ok (.imul, 1) := by decide +kernel
theorem dX5_list_225 : decode cX5_list 225 = .ok (.goto 5, 3) := by decide +kernel
theorem dX5_list_228 : decode cX5_list 228 = .ok (.iload 5, 2) := by decide +kernel
theorem dX5_list_230 : decode cX5_list 230 = .ok (.putfield 149, 3) := by decide +kernel
theorem dX5_list_233 : decode cX5_list 233 = .ok (.aload_n 0, 1) := by decide +kernel
theorem dX5_list_234 : decode cX5_list 234 = .ok (.invokevirtual 139, 3) := by decide +kernel
theorem dX5_list_237 : decode cX5_list 237 = .ok (.iconst 1, 1) := by decide +kernel
theorem dX5_list_238 : decode cX5_list 238 = .ok (.ireturn, 1) := by decide +kernel
set_option maxRecDepth 20000 in
theorem ggX5_tree_X5_name : GoodIn wsX5_tree wsX5_name := goodIn_r _ [8, 9, 10, 11, 12, 13, 7, 14, 15, 16, 2, 17, 18, 19, 20, 21, 22, 23, 24, 25, 26, 27, 28, 29, 30, 31, 32, 1, 3, 33, 34, 35, 36, 37, 38, 39, 40, 41, 42, 43, 44, 96, 97, 98, 99, 100, 101, 102, 103, 104, 105, 106, 107, 108, 109, 110, 111, 112, 113, 114, 115, 116, 117, 118, 119, 120, 121, 122, 123, 124, 125, 126, 127, 128, 129, 130, 131, 132, 133, 134, 135, 136, 137] (by decide +kernel) (by decide +kernel)
set_option maxRecDepth 20000 in
theorem gX5_tree_X5_name : GoodIn wsX5_tree (wsV RX5 178 RX5 yX5_name wsX5_name) := goodIn_app (goodIn_of _ (by decide +kernel)) ggX5_tree_X5_name
set_option maxRecDepth 20000 in
theorem ggX5_tree_X5_is : GoodIn wsX5_tree wsX5_is := goodIn_r _ [48, 1, 32, 96, 97, 98, 99, 100, 101, 102, 103, 104, 105, 106, 107, 108, 109, 110, 111, 112, 113, 114, 115, 116, 117, 118, 119, 120, 121, 122, 123, 124, 125, 126, 127, 128, 129, 130, 131, 132, 133, 134, 135, 136, 137] (by decide +kernel) (by decide +kernel)
set_option maxRecDepth 20000 in
theorem gX5_tree_X5_is : GoodIn wsX5_tree (wsV RX5 133 RX5 yX5_is wsX5_is) := goodIn_app (goodIn_of _ (by decide +kernel)) ggX5_tree_X5_is
set_option maxRecDepth 20000 in
theorem ggX5_tree_X5_eraser : GoodIn wsX5_tree wsX5_eraser := goodIn_r _ [52, 10, 53, 54, 55, 7, 56, 57, 17, 18, 19, 20, 21, 22, 23, 24, 25, 26, 58, 59, 60, 61, 27, 28, 29, 30, 31, 32, 2, 1, 3, 33, 34, 35, 36, 37, 38, 39, 40, 41, 42, 43, 44, 96, 97, 98, 99, 100, 101, 102, 103, 104, 105, 106, 107, 108, 109, 110, 111, 112, 113, 114, 115, 116, 117, 118, 119, 120, 121, 122, 123, 124, 125, 126, 127, 128, 129, 130, 131, 132, 133, 134, 135, 136, 137] (by decide +kernel) (by decide +kernel)
set_option maxRecDepth 20000 in
theorem gX5_tree_X5_eraser : GoodIn wsX5_tree (wsV RX5 181 RX5 yX5_eraser wsX5_eraser) := goodIn_app (goodIn_of _ (by decide +kernel)) ggX5_tree_X5_eraser
set_option maxRecDepth 20000 in
theorem ggX5_tree_X5_node : GoodIn wsX5_tree wsX5_node := goodIn_r _ [82, 83, 10, 17, 18, 19, 7, 20, 21, 22, 23, 24, 25, 26, 53, 54, 55, 56, 57, 58, 59, 60, 61, 27, 28, 29, 30, 31, 32, 2, 1, 3, 33, 34, 35, 36, 37, 38, 39, 40, 41, 42, 43, 44, 84, 85, 86, 87, 88, 89, 90, 91, 92, 93, 94, 95, 45, 46, 47, 48, 0, 4, 5, 6, 8, 9, 11, 12, 13, 14, 15, 16, 49, 50, 51, 52, 62, 63, 64, 65, 66, 67, 68, 69, 70, 71, 72, 73, 74, 75, 76, 77, 78, 79, 80, 81, 96, 97, 98, 99, 100, 101, 102, 103, 104, 105, 106, 107, 108, 109, 110, 111, 112, 113, 114, 115, 116, 117, 118, 119, 120, 121, 122, 123, 124, 125, 126, 127, 128, 129, 130, 131, 132, 133, 134, 135, 136, 137] (by decide +kernel) (by decide +kernel)
set_option maxRecDepth 20000 in
theorem gX5_tree_X5_node : GoodIn wsX5_tree (wsV RX5 184 RX5 yX5_node wsX5_node) := goodIn_app (goodIn_of _ (by decide +kernel)) ggX5_tree_X5_node
set_option maxRecDepth 20000 in
theorem ggX5_tree_X5_number : GoodIn wsX5_tree wsX5_number := goodIn_r _ [68, 21, 1, 32, 10, 27, 28, 29, 7, 30, 31, 2, 3, 33, 34, 35, 36, 37, 38, 39, 40, 41, 42, 43, 44, 17, 18, 19, 20, 22, 23, 24, 25, 26, 53, 54, 55, 56, 57, 69, 70, 71, 72, 58, 59, 60, 61, 73, 74, 75, 76, 96, 97, 98, 99, 100, 101, 102, 103, 104, 105, 106, 107, 108, 109, 110, 111, 112, 113, 114, 115, 116, 117, 118, 119, 120, 121, 122, 123, 124, 125, 126, 127, 128, 129, 130, 131, 132, 133, 134, 135, 136, 137] (by decide +kernel) (by decide +kernel)
set_option maxRecDepth 20000 in
theorem gX5_tree_X5_number : GoodIn wsX5_tree (wsV RX5 187 RX5 yX5_number wsX5_number) := goodIn_app (goodIn_of _ (by decide +kernel)) ggX5_tree_X5_number
set_option maxRecDepth 20000 in
theorem ggX5_tree_X5_list : GoodIn wsX5_tree wsX5_list := goodIn_r _ [80, 21, 1, 32, 81, 10, 27, 28, 29, 7, 30, 31, 2, 3, 33, 34, 35, 36, 37, 38, 39, 40, 41, 42, 43, 44, 17, 18, 19, 20, 22, 23, 24, 25, 26, 45, 46, 47, 48, 53, 54, 55, 56, 57, 58, 59, 60, 61, 69, 70, 71, 72, 73, 74, 75, 76, 96, 97, 98, 99, 100, 101, 102, 103, 104, 105, 106, 107, 108, 109, 110, 111, 112, 113, 114, 115, 116, 117, 118, 119, 120, 121, 122, 123, 124, 125, 126, 127, 128, 129, 130, 131, 132, 133, 134, 135, 136, 137] (by decide +kernel) (by decide +kernel)
set_option maxRecDepth 20000 in
theorem gX5_tree_X5_list : GoodIn wsX5_tree (wsV RX5 190 RX5 yX5_list wsX5_list) := goodIn_app (goodIn_of _ (by decide +kernel)) ggX5_tree_X5_list
set_option maxRecDepth 20000 in
theorem ggX5_tree_X5_bad : GoodIn wsX5_tree wsX5_bad := goodIn_r _ [20, 21, 22, 23, 24, 7, 25, 26, 96, 97, 98, 99, 100, 101, 102, 103, 104, 105, 106, 107, 108, 109, 110, 111, 112, 113, 114, 115, 116, 117, 118, 119, 120, 121, 122, 123, 124, 125, 126, 127, 128, 129, 130, 131, 132, 133, 134, 135, 136, 137] (by decide +kernel) (by decide +kernel)
set_option maxRecDepth 20000 in
theorem gX5_tree_X5_bad : GoodIn wsX5_tree (wsV RX5 136 RX5 yX5_bad wsX5_bad) := goodIn_app (goodIn_of _ (by decide +kernel)) ggX5_tree_X5_bad
theorem dX5_tree_0 : decode cX5_tree 0 = .ok (.aload_n 0, 1) := by decide +kernel
theorem dX5_tree_1 : decode cX5_tree 1 = .ok (.getfield 118, 3) := by decide +kernel
theorem dX5_tree_4 : decode cX5_tree 4 = .ok (.iconst 1, 1) := by decide +kernel
theorem dX5_tree_5 : decode cX5_tree 5 = .ok (.if_icmp .ne 17, 3) := by decide +kernel
theorem dX5_tree_8 : decode cX5_tree 8 = .ok (.aload_n 0, 1) := by decide +kernel
theorem dX5_tree_9 : decode cX5_tree 9 = .ok (.getfield 115, 3) := by decide +kernel
theorem dX5_tree_12 : decode cX5_tree 12 = .ok (.ldc 121, 2) := by decide +kernel
theorem dX5_tree_14 : decode cX5_tree 14 = .ok (.if_icmp .eq 8, 3) := by decide +kernel
theorem dX5_tree_17 : decode cX5_tree 17 = .ok (.aload_n 0, 1) := by decide +kernel
theorem dX5_tree_18 : decode cX5_tree 18 = .ok (.invokevirtual 178, 3) := by decide +kernel
theorem dX5_tree_21 : decode cX5_tree 21 = .ok (.ireturn, 1) := by decide +kernel
theorem dX5_tree_22 : decode cX5_tree 22 = .ok (.aload_n 0, 1) := by decide +kernel
theorem dX5_tree_23 : decode cX5_tree 23 = .ok (.bipush 42, 2) := by decide +kernel
theorem dX5_tree_25 : decode cX5_tree 25 = .ok (.invokevirtual 133, 3) := by decide +kernel
theorem dX5_tree_28 : decode cX5_tree 28 = .ok (.ifCond .eq 8, 3) := by decide +kernel
theorem dX5_tree_31 : decode cX5_tree 31 = .ok (.aload_n 0, 1) := by decide +kernel
theorem dX5_tree_32 : decode cX5_tree 32 = .ok (.invokevirtual 181, 3) := by decide +kernel
theorem dX5_tree_35 : decode cX5_tree 35 = .ok (.ireturn, 1) := by decide +kernel
theorem dX5_tree_36 : decode cX5_tree 36 = .ok (.aload_n 0, 1) := by decide +kernel
theorem dX5_tree_37 : decode cX5_tree 37 = .ok (.bipush 40, 2) := by decide +kernel
theorem dX5_tree_39 : decode cX5_tree 39 = .ok (.invokevirtual 133, 3) := by decide +kernel
theorem dX5_tree_42 : decode cX5_tree 42 = .ok (.ifCond .eq 11, 3) := by decide +kernel
theorem dX5_tree_45 : decode cX5_tree 45 = .ok (.aload_n 0, 1) := by decide +kernel
theorem dX5_tree_46 : decode cX5_tree 46 = .ok (.iconst 1, 1) := by decide +kernel
theorem dX5_tree_47 : decode cX5_tree 47 = .ok (.bipush 41, 2) := by decide +kernel
theorem dX5_tree_49 : decode cX5_tree 49 = .ok (.invokevirtual 184, 3) := by decide +kernel
theorem dX5_tree_52 : decode cX5_tree 52 = .ok (.ireturn, 1) := by decide +kernel
theorem dX5_tree_53 : decode cX5_tree 53 = .ok (.aload_n 0, 1) := by decide +kernel
theorem dX5_tree_54 : decode cX5_tree 54 = .ok (.bipush 91, 2) := by decide +kernel
theorem dX5_tree_56 : decode cX5_tree 56 = .ok (.invokevirtual 133, 3) := by decide +kernel
theorem dX5_tree_59 : decode cX5_tree 59 = .ok (.ifCond .eq 11, 3) := by decide +kernel
theorem dX5_tree_62 : decode cX5_tree 62 = .ok (.aload_n 0, 1) := by decide +kernel
theorem dX5_tree_63 : decode cX5_tree 63 = .ok (.iconst 2, 1) := by decide +kernel
theorem dX5_tree_64 : decode cX5_tree 64 = .ok (.bipush 93, 2) := by decide +kernel
theorem dX5_tree_66 : decode cX5_tree 66 = .ok (.invokevirtual 184, 3) := by decide +kernel
theorem dX5_tree_69 : decode cX5_tree 69 = .ok (.ireturn, 1) := by decide +kernel
theorem dX5_tree_70 : decode cX5_tree 70 = .ok (.aload_n 0, 1) := by decide +kernel
theorem dX5_tree_71 : decode cX5_tree 71 = .ok (.bipush 35, 2) := by decide +kernel
theorem dX5_tree_73 : decode cX5_tree 73 = .ok (.invokevirtual 133, 3) := by decide +kernel
theorem dX5_tree_76 : decode cX5_tree 76 = .ok (.ifCond .eq 8, 3) := by decide +kernel
theorem dX5_tree_79 : decode cX5_tree 79 = .ok (.aload_n 0, 1) := by decide +kernel
theorem dX5_tree_80 : decode cX5_tree 80 = .ok (.invokevirtual 187, 3) := by decide +kernel
theorem dX5_tree_83 : decode cX5_tree 83 = .ok (.ireturn, 1) := by decide +kernel
theorem dX5_tree_84 : decode cX5_tree 84 = .ok (.aload_n 0, 1) := by decide +kernel
theorem dX5_tree_85 : decode cX5_tree 85 = .ok (.bipush 60, 2) := by decide +kernel
theorem dX5_tree_87 : decode cX5_tree 87 = .ok (.invokevirtual 133, 3) := by decide +kernel
theorem dX5_tree_90 : decode cX5_tree 90 = .ok (.ifCond .eq 10, 3) := by decide +kernel
theorem dX5_tree_93 : decode cX5_tree 93 = .ok (.aload_n 0, 1) := by decide +kernel
theorem dX5_tree_94 : decode cX5_tree 94 = .ok (.invokevirtual 190, 3) := by decide +kernel
theorem dX5_tree_97 : decode cX5_tree 97 = .ok (.goto 8, 3) := by decide +kernel
theorem dX5_tree_100 : decode cX5_tree 100 = .ok (.aload_n 0, 1) := by decide +kernel
theorem dX5_tree_101 : decode cX5_tree 101 = .ok (.iconst 1, 1) := by decide +kernel
theorem dX5_tree_102 : decode cX5_tree 102 = .ok (.invokevirtual 136, 3) := by decide +kernel
theorem dX5_tree_105 : decode cX5_tree 105 = .ok (.ireturn, 1) := by decide +kernel
set_option maxRecDepth 20000 in
theorem ggX5_line_X5_tree : GoodIn wsX5_line wsX5_tree := goodIn_r _ [6, 7, 8, 9, 10, 11, 12, 5, 13, 14, 1, 15, 16, 17, 18, 19, 20, 21, 22, 23, 24, 25, 26, 27, 28, 29, 30, 31, 32, 33, 34, 35, 36, 37, 38, 39, 40, 41, 42, 43, 44, 45, 46, 47, 48, 49, 50, 51, 52, 53, 54, 55, 56, 57, 58, 59, 60, 61, 62, 63, 64, 65, 66, 67, 68, 69, 70, 71, 72, 73, 74, 75, 76, 77, 78, 79, 80, 81, 82, 83, 84, 85, 86, 87, 2, 3, 4, 88, 89, 90, 91, 92, 93, 94, 95, 96, 97, 98, 99, 100, 101, 102, 103, 104, 105, 106, 107, 108, 109, 110, 111, 112, 113, 114, 115, 116, 117, 118, 119, 120, 121, 122, 123, 124, 125, 126, 127, 128, 129, 130, 131, 132, 133, 134, 135, 136, 137, 138] (by decide +kernel) (by decide +kernel)
set_option maxRecDepth 20000 in
theorem gX5_line_X5_tree : GoodIn wsX5_line (wsV RX5 161 RX5 yX5_tree wsX5_tree) := goodIn_app (goodIn_of _ (by decide +kernel)) ggX5_line_X5_tree
set_option maxRecDepth 20000 in
theorem ggX5_line_X5_sign : GoodIn wsX5_line wsX5_sign := goodIn_r _ [96, 49, 50, 51, 5, 52, 7, 36, 21, 22, 23, 24, 25, 26, 27, 28, 29, 30, 31, 32, 33, 34, 35, 8, 9, 37, 38, 39, 40, 41, 42, 43, 44, 45, 46, 47, 48, 97, 98, 99, 100, 101, 102, 103, 104, 105, 106, 107, 108, 109, 110, 111, 112, 113, 114, 115, 116, 117, 118, 119, 120, 121, 122, 123, 124, 125, 126, 127, 128, 129, 130, 131, 132, 133, 134, 135, 136, 137, 138] (by decide +kernel) (by decide +kernel)
set_option maxRecDepth 20000 in
theorem gX5_line_X5_sign : GoodIn wsX5_line (wsV RX5 169 RX5 yX5_sign wsX5_sign) := goodIn_app (goodIn_of _ (by decide +kernel)) ggX5_line_X5_sign
set_option maxRecDepth 20000 in
theorem ggX5_line_X5_ties : GoodIn wsX5_line wsX5_ties := goodIn_r _ [91, 92, 61, 97, 98, 99, 100, 101, 102, 103, 104, 105, 106, 107, 108, 109, 110, 111, 112, 113, 114, 115, 116, 117, 118, 119, 120, 121, 122, 123, 124, 125, 126, 127, 128, 129, 130, 131, 132, 133, 134, 135, 136, 137, 138] (by decide +kernel) (by decide +kernel)
set_option maxRecDepth 20000 in
theorem gX5_line_X5_ties : GoodIn wsX5_line (wsV RX5 165 RX5 yX5_ties wsX5_ties) := goodIn_app (goodIn_of _ (by decide +kernel)) ggX5_line_X5_ties
theorem dX5_line_0 : decode cX5_line 0 = .ok (.aload_n 0, 1) := by decide +kernel
theorem dX5_line_1 : decode cX5_line 1 = .ok (.invokevirtual 161, 3) := by decide +kernel
theorem dX5_line_4 : decode cX5_line 4 = .ok (.ifCond .ne 5, 3) := by decide +kernel
theorem dX5_line_7 : decode cX5_line 7 = .ok (.iconst 0, 1) := by decide +kernel
theorem dX5_line_8 : decode cX5_line 8 = .ok (.ireturn, 1) := by decide +kernel
theorem dX5_line_9 : decode cX5_line 9 = .ok (.aload_n 0, 1) := by decide +kernel
theorem dX5_line_10 : decode cX5_line 10 = .ok (.getfield 149, 3) := by decide +kernel
theorem dX5_line_13 : decode cX5_line 13 = .ok (.istore_n 1, 1) := by decide +kernel
theorem dX5_line_14 : decode cX5_line 14 = .ok (.aload_n 0, 1) := by decide +kernel
theorem dX5_line_15 : decode cX5_line 15 = .ok (.bipush 126, 2) := by decide +kernel
theorem dX5_line_17 : decode cX5_line 17 = .ok (.invokevirtual 169, 3) := by decide +kernel
theorem dX5_line_20 : decode cX5_line 20 = .ok (.ifCond .eq 10, 3) := by decide +kernel
theorem dX5_line_23 : decode cX5_line 23 = .ok (.aload_n 0, 1) := by decide +kernel
theorem dX5_line_24 : decode cX5_line 24 = .ok (.invokevirtual 161, 3) := by decide +kernel
theorem dX5_line_27 : decode cX5_line 27 = .ok (.ifCond .ne 5, 3) := by decide +kernel
theorem dX5_line_30 : decode cX5_line 30 = .ok (.iconst 0, 1) := by decide +kernel
theorem dX5_line_31 : decode cX5_line 31 = .ok (.ireturn, 1) := by decide +kernel
theorem dX5_line_32 : decode cX5_line 32 = .ok (.aload_n 0, 1) := by decide +kernel
theorem dX5_line_33 : decode cX5_line 33 = .ok (.iload_n 1, 1) := by decide +kernel
theorem dX5_line_34 : decode cX5_line 34 = .ok (.aload_n 0, 1) := by decide +kernel
theorem dX5_line_35 : decode cX5_line 35 = .ok (.getfield 149, 3) := by decide +kernel
theorem dX5_line_38 : decode cX5_line 38 = .ok (.invokevirtual 165, 3) := by decide +kernel
theorem dX5_line_41 : decode cX5_line 41 = .ok (.aload_n 0, 1) := by decide +kernel
theorem dX5_line_42 : decode cX5_line 42 = .ok (.bipush 59, 2) := by decide +kernel
theorem dX5_line_44 : decode cX5_line 44 = .ok (.invokevirtual 169, 3) := by decide +kernel
theorem dX5_line_47 : decode cX5_line 47 = .ok (.ireturn, 1) := by decide +kernel
set_option maxRecDepth 20000 in
theorem ggX5_memoryLine_X5_go : GoodIn wsX5_memoryLine wsX5_go := goodIn_r _ [8, 9, 10, 2, 11, 1, 12, 13, 14, 15, 7, 16, 17, 18, 19, 20, 21, 22, 23, 24, 42, 43, 44, 45, 46, 47, 48, 49, 50, 51, 52, 53, 54, 55, 56, 57, 58, 59, 60, 61, 62, 63, 64, 65, 66, 67, 68, 69, 70, 71, 72, 73, 74, 75, 76, 77, 78, 79, 80, 81, 82, 83] (by decide +kernel) (by decide +kernel)
set_option maxRecDepth 20000 in
theorem gX5_memoryLine_X5_go : GoodIn wsX5_memoryLine (wsV RX5 139 RX5 yX5_go wsX5_go) := goodIn_app (goodIn_of _ (by decide +kernel)) ggX5_memoryLine_X5_go
set_option maxRecDepth 20000 in
theorem ggX5_memoryLine_X5_bad : GoodIn wsX5_memoryLine wsX5_bad := goodIn_r _ [28, 10, 29, 30, 31, 7, 32, 33, 42, 43, 44, 45, 46, 47, 48, 49, 50, 51, 52, 53, 54, 55, 56, 57, 58, 59, 60, 61, 62, 63, 64, 65, 66, 67, 68, 69, 70, 71, 72, 73, 74, 75, 76, 77, 78, 79, 80, 81, 82, 83] (by decide +kernel) (by decide +kernel)
set_option maxRecDepth 20000 in
theorem gX5_memoryLine_X5_bad : GoodIn wsX5_memoryLine (wsV RX5 136 RX5 yX5_bad wsX5_bad) := goodIn_app (goodIn_of _ (by decide +kernel)) ggX5_memoryLine_X5_bad
set_option maxRecDepth 20000 in
theorem ggX5_memoryLine_X5_within : GoodIn wsX5_memoryLine wsX5_within := goodIn_r _ [21] (by decide +kernel) (by decide +kernel)
set_option maxRecDepth 20000 in
theorem gX5_memoryLine_X5_within : GoodIn wsX5_memoryLine (va_wsS RX5 89 yX5_within wsX5_within) := goodIn_app (goodIn_of _ (by decide +kernel)) ggX5_memoryLine_X5_within
set_option maxRecDepth 20000 in
theorem ggX5_memoryLine_X5_sign : GoodIn wsX5_memoryLine wsX5_sign := goodIn_r _ [37, 38, 39, 40, 7, 41, 1, 2, 25, 26, 27, 28, 10, 29, 30, 31, 32, 33, 4, 5, 6, 8, 9, 11, 12, 13, 14, 15, 16, 17, 18, 19, 20, 21, 22, 23, 24, 42, 43, 44, 45, 46, 47, 48, 49, 50, 51, 52, 53, 54, 55, 56, 57, 58, 59, 60, 61, 62, 63, 64, 65, 66, 67, 68, 69, 70, 71, 72, 73, 74, 75, 76, 77, 78, 79, 80, 81, 82, 83] (by decide +kernel) (by decide +kernel)
set_option maxRecDepth 20000 in
theorem gX5_memoryLine_X5_sign : GoodIn wsX5_memoryLine (wsV RX5 169 RX5 yX5_sign wsX5_sign) := goodIn_app (goodIn_of _ (by decide +kernel)) ggX5_memoryLine_X5_sign
theorem dX5_memoryLine_0 : decode cX5_memoryLine 0 = .ok (.aload_n 0, 1) := by decide +kernel
theorem dX5_memoryLine_1 : decode cX5_memoryLine 1 = .ok (.invokevirtual 139, 3) := by decide +kernel
theorem dX5_memoryLine_4 : decode cX5_memoryLine 4 = .ok (.aload_n 0, 1) := by decide +kernel
theorem dX5_memoryLine_5 : decode cX5_memoryLine 5 = .ok (.getfield 118, 3) := by decide +kernel
theorem dX5_memoryLine_8 : decode cX5_memoryLine 8 = .ok (.iconst 2, 1) := by decide +kernel
theorem dX5_memoryLine_9 : decode cX5_memoryLine 9 = .ok (.if_icmp .eq 9, 3) := by decide +kernel
theorem dX5_memoryLine_12 : decode cX5_memoryLine 12 = .ok (.aload_n 0, 1) := by decide +kernel
theorem dX5_memoryLine_13 : decode cX5_memoryLine 13 = .ok (.iconst 1, 1) := by decide +kernel
theorem dX5_memoryLine_14 : decode cX5_memoryLine 14 = .ok (.invokevirtual 136, 3) := by decide +kernel
theorem dX5_memoryLine_17 : decode cX5_memoryLine 17 = .ok (.ireturn, 1) := by decide +kernel
theorem dX5_memoryLine_18 : decode cX5_memoryLine 18 = .ok (.aload_n 0, 1) := by decide +kernel
theorem dX5_memoryLine_19 : decode cX5_memoryLine 19 = .ok (.getfield 112, 3) := by decide +kernel
theorem dX5_memoryLine_22 : decode cX5_memoryLine 22 = .ok (.bipush 8, 2) := by decide +kernel
theorem dX5_memoryLine_24 : decode cX5_memoryLine 24 = .ok (.sipush 300, 3) := by decide +kernel
theorem dX5_memoryLine_27 : decode cX5_memoryLine 27 = .ok (.invokestatic 89, 3) := by decide +kernel
theorem dX5_memoryLine_30 : decode cX5_memoryLine 30 = .ok (.ifCond .ne 9, 3) := by decide +kernel
theorem dX5_memoryLine_33 : decode cX5_memoryLine 33 = .ok (.aload_n 0, 1) := by decide +kernel
theorem dX5_memoryLine_34 : decode cX5_memoryLine 34 = .ok (.iconst 3, 1) := by decide +kernel
theorem dX5_memoryLine_35 : decode cX5_memoryLine 35 = .ok (.invokevirtual 136, 3) := by decide +kernel
theorem dX5_memoryLine_38 : decode cX5_memoryLine 38 = .ok (.ireturn, 1) := by decide +kernel
theorem dX5_memoryLine_39 : decode cX5_memoryLine 39 = .ok (.aload_n 0, 1) := by decide +kernel
theorem dX5_memoryLine_40 : decode cX5_memoryLine 40 = .ok (.getfield 7, 3) := by decide +kernel
theorem dX5_memoryLine_43 : decode cX5_memoryLine 43 = .ok (.iconst 0, 1) := by decide +kernel
theorem dX5_memoryLine_44 : decode cX5_memoryLine 44 = .ok (.aload_n 0, 1) := by decide +kernel
theorem dX5_memoryLine_45 : decode cX5_memoryLine 45 = .ok (.getfield 112, 3) := by decide +kernel
theorem dX5_memoryLine_48 : decode cX5_memoryLine 48 = .ok (.iastore, 1) := by decide +kernel
theorem dX5_memoryLine_49 : decode cX5_memoryLine 49 = .ok (.aload_n 0, 1) := by decide +kernel
theorem dX5_memoryLine_50 : decode cX5_memoryLine 50 = .ok (.invokevirtual 139, 3) := by decide +kernel
theorem dX5_memoryLine_53 : decode cX5_memoryLine 53 = .ok (.aload_n 0, 1) := by decide +kernel
theorem dX5_memoryLine_54 : decode cX5_memoryLine 54 = .ok (.bipush 59, 2) := by decide +kernel
theorem dX5_memoryLine_56 : decode cX5_memoryLine 56 = .ok (.invokevirtual 169, 3) := by decide +kernel
theorem dX5_memoryLine_59 : decode cX5_memoryLine 59 = .ok (.ireturn, 1) := by decide +kernel
set_option maxRecDepth 20000 in
theorem ggX5_rootsAll_X5_bad : GoodIn wsX5_rootsAll wsX5_bad := goodIn_r _ [9, 10, 11, 12, 13, 8, 14, 15, 16, 17, 18, 19, 20, 21, 22, 23, 24, 25, 26, 27, 28, 29, 30, 31, 32, 33, 34, 35, 36, 37, 38, 39, 40, 41, 42, 43, 44, 45, 46, 47, 48, 49, 50, 51, 52, 53, 54, 55, 56, 57] (by decide +kernel) (by decide +kernel)
set_option maxRecDepth 20000 in
theorem gX5_rootsAll_X5_bad : GoodIn wsX5_rootsAll (wsV RX5 136 RX5 yX5_bad wsX5_bad) := goodIn_app (goodIn_of _ (by decide +kernel)) ggX5_rootsAll_X5_bad
theorem dX5_rootsAll_0 : decode cX5_rootsAll 0 = .ok (.iconst 0, 1) := by decide +kernel
theorem dX5_rootsAll_1 : decode cX5_rootsAll 1 = .ok (.istore_n 1, 1) := by decide +kernel
theorem dX5_rootsAll_2 : decode cX5_rootsAll 2 = .ok (.iconst 0, 1) := by decide +kernel
theorem dX5_rootsAll_3 : decode cX5_rootsAll 3 = .ok (.istore_n 2, 1) := by decide +kernel
theorem dX5_rootsAll_4 : decode cX5_rootsAll 4 = .ok (.iload_n 2, 1) := by decide +kernel
theorem dX5_rootsAll_5 : decode cX5_rootsAll 5 = .ok (.aload_n 0, 1) := by decide +kernel
theorem dX5_rootsAll_6 : decode cX5_rootsAll 6 = .ok (.getfield 142, 3) := by decide +kernel
theorem dX5_rootsAll_9 : decode cX5_rootsAll 9 = .ok (.if_icmp .ge 27, 3) := by decide +kernel
theorem dX5_rootsAll_12 : decode cX5_rootsAll 12 = .ok (.iload_n 1, 1) := by decide +kernel
theorem dX5_rootsAll_13 : decode cX5_rootsAll 13 = .ok (.aload_n 0, 1) := by decide +kernel
theorem dX5_rootsAll_14 : decode cX5_rootsAll 14 = .ok (.getfield 24, 3) := by decide +kernel
theorem dX5_rootsAll_17 : decode cX5_rootsAll 17 = .ok (.iload_n 2, 1) := by decide +kernel
theorem dX5_rootsAll_18 : decode cX5_rootsAll 18 = .ok (.iaload, 1) := by decide +kernel
theorem dX5_rootsAll_19 : decode cX5_rootsAll 19 = .ok (.iconst 1, 1) := by decide +kernel
theorem dX5_rootsAll_20 : decode cX5_rootsAll 20 = .ok (.if_icmp .ne 7, 3) := by decide +kernel
theorem dX5_rootsAll_23 : decode cX5_rootsAll 23 = .ok (.iconst 1, 1) := by decide +kernel
theorem dX5_rootsAll_24 : decode cX5_rootsAll 24 = .ok (.goto 4, 3) := by decide +kernel
theorem dX5_rootsAll_27 : decode cX5_rootsAll 27 = .ok (.iconst 0, 1) := by decide +kernel
theorem dX5_rootsAll_28 : decode cX5_rootsAll 28 = .ok (.iadd, 1) := by decide +kernel
theorem dX5_rootsAll_29 : decode cX5_rootsAll 29 = .ok (.istore_n 1, 1) := by decide +kernel
theorem dX5_rootsAll_30 : decode cX5_rootsAll 30 = .ok (.iinc 2 1, 3) := by decide +kernel
theorem dX5_rootsAll_33 : decode cX5_rootsAll 33 = .ok (.goto (-29), 3) := by decide +kernel
theorem dX5_rootsAll_36 : decode cX5_rootsAll 36 = .ok (.iload_n 1, 1) := by decide +kernel
theorem dX5_rootsAll_37 : decode cX5_rootsAll 37 = .ok (.bipush 16, 2) := by decide +kernel
theorem dX5_rootsAll_39 : decode cX5_rootsAll 39 = .ok (.if_icmp .le 10, 3) := by decide +kernel
theorem dX5_rootsAll_42 : decode cX5_rootsAll 42 = .ok (.aload_n 0, 1) := by decide +kernel
theorem dX5_rootsAll_43 : decode cX5_rootsAll 43 = .ok (.bipush 6, 2) := by decide +kernel
theorem dX5_rootsAll_45 : decode cX5_rootsAll 45 = .ok (.invokevirtual 136, 3) := by decide +kernel
theorem dX5_rootsAll_48 : decode cX5_rootsAll 48 = .ok (.ireturn, 1) := by decide +kernel
theorem dX5_rootsAll_49 : decode cX5_rootsAll 49 = .ok (.iconst 0, 1) := by decide +kernel
theorem dX5_rootsAll_50 : decode cX5_rootsAll 50 = .ok (.istore_n 2, 1) := by decide +kernel
theorem dX5_rootsAll_51 : decode cX5_rootsAll 51 = .ok (.iconst 0, 1) := by decide +kernel
theorem dX5_rootsAll_52 : decode cX5_rootsAll 52 = .ok (.istore_n 3, 1) := by decide +kernel
theorem dX5_rootsAll_53 : decode cX5_rootsAll 53 = .ok (.iload_n 3, 1) := by decide +kernel
theorem dX5_rootsAll_54 : decode cX5_rootsAll 54 = .ok (.aload_n 0, 1) := by decide +kernel
theorem dX5_rootsAll_55 : decode cX5_rootsAll 55 = .ok (.getfield 142, 3) := by decide +kernel
theorem dX5_rootsAll_58 : decode cX5_rootsAll 58 = .ok (.if_icmp .ge 66, 3) := by decide +kernel
theorem dX5_rootsAll_61 : decode cX5_rootsAll 61 = .ok (.aload_n 0, 1) := by decide +kernel
theorem dX5_rootsAll_62 : decode cX5_rootsAll 62 = .ok (.getfield 24, 3) := by decide +kernel
theorem dX5_rootsAll_65 : decode cX5_rootsAll 65 = .ok (.iload_n 3, 1) := by decide +kernel
theorem dX5_rootsAll_66 : decode cX5_rootsAll 66 = .ok (.iaload, 1) := by decide +kernel
theorem dX5_rootsAll_67 : decode cX5_rootsAll 67 = .ok (.iconst 1, 1) := by decide +kernel
theorem dX5_rootsAll_68 : decode cX5_rootsAll 68 = .ok (.if_icmp .ne 50, 3) := by decide +kernel
theorem dX5_rootsAll_71 : decode cX5_rootsAll 71 = .ok (.aload_n 0, 1) := by decide +kernel
theorem dX5_rootsAll_72 : decode cX5_rootsAll 72 = .ok (.getfield 7, 3) := by decide +kernel
theorem dX5_rootsAll_75 : decode cX5_rootsAll 75 = .ok (.bipush 14, 2) := by decide +kernel
theorem dX5_rootsAll_77 : decode cX5_rootsAll 77 = .ok (.iload_n 2, 1) := by decide +kernel
theorem dX5_rootsAll_78 : decode cX5_rootsAll 78 = .ok (.iadd, 1) := by decide +kernel
theorem dX5_rootsAll_79 : decode cX5_rootsAll 79 = .ok (.iconst 1, 1) := by decide +kernel
theorem dX5_rootsAll_80 : decode cX5_rootsAll 80 = .ok (.iastore, 1) := by decide +kernel
theorem dX5_rootsAll_81 : decode cX5_rootsAll 81 = .ok (.aload_n 0, 1) := by decide +kernel
theorem dX5_rootsAll_82 : decode cX5_rootsAll 82 = .ok (.getfield 27, 3) := by decide +kernel
theorem dX5_rootsAll_85 : decode cX5_rootsAll 85 = .ok (.iconst 2, 1) := by decide +kernel
theorem dX5_rootsAll_86 : decode cX5_rootsAll 86 = .ok (.iload_n 3, 1) := by decide +kernel
theorem dX5_rootsAll_87 : decode cX5_rootsAll 87 = .ok (.imul, 1) := by decide +kernel
theorem dX5_rootsAll_88 : decode cX5_rootsAll 88 = .ok (.iconst 1, 1) := by decide +kernel
theorem dX5_rootsAll_89 : decode cX5_rootsAll 89 = .ok (.iadd, 1) := by decide +kernel
theorem dX5_rootsAll_90 : decode cX5_rootsAll 90 = .ok (.sipush 1000, 3) := by decide +kernel
theorem dX5_rootsAll_93 : decode cX5_rootsAll 93 = .ok (.iload_n 2, 1) := by decide +kernel
theorem dX5_rootsAll_94 : decode cX5_rootsAll 94 = .ok (.iadd, 1) := by decide +kernel
theorem dX5_rootsAll_95 : decode cX5_rootsAll 95 = .ok (.iastore, 1) := by decide +kernel
theorem dX5_rootsAll_96 : decode cX5_rootsAll 96 = .ok (.aload_n 0, 1) := by decide +kernel
theorem dX5_rootsAll_97 : decode cX5_rootsAll 97 = .ok (.getfield 7, 3) := by decide +kernel
theorem dX5_rootsAll_100 : decode cX5_rootsAll 100 = .ok (.sipush 1630, 3) := by decide +kernel
theorem dX5_rootsAll_103 : decode cX5_rootsAll 103 = .ok (.iload_n 2, 1) := by decide +kernel
theorem dX5_rootsAll_104 : decode cX5_rootsAll 104 = .ok (.iadd, 1) := by decide +kernel
theorem dX5_rootsAll_105 : decode cX5_rootsAll 105 = .ok (.sipush 1100, 3) := by decide +kernel
theorem dX5_rootsAll_108 : decode cX5_rootsAll 108 = .ok (.iconst 2, 1) := by decide +kernel
theorem dX5_rootsAll_109 : decode cX5_rootsAll 109 = .ok (.iload_n 3, 1) := by decide +kernel
theorem dX5_rootsAll_110 : decode cX5_rootsAll 110 = .ok (.imul, 1) := by decide +kernel
theorem dX5_rootsAll_111 : decode cX5_rootsAll 111 = .ok (.iadd, 1) := by decide +kernel
theorem dX5_rootsAll_112 : decode cX5_rootsAll 112 = .ok (.iconst 1, 1) := by decide +kernel
theorem dX5_rootsAll_113 : decode cX5_rootsAll 113 = .ok (.iadd, 1) := by decide +kernel
theorem dX5_rootsAll_114 : decode cX5_rootsAll 114 = .ok (.iastore, 1) := by decide +kernel
theorem dX5_rootsAll_115 : decode cX5_rootsAll 115 = .ok (.iinc 2 1, 3) := by decide +kernel
theorem dX5_rootsAll_118 : decode cX5_rootsAll 118 = .ok (.iinc 3 1, 3) := by decide +kernel
theorem dX5_rootsAll_121 : decode cX5_rootsAll 121 = .ok (.goto (-68), 3) := by decide +kernel
theorem dX5_rootsAll_124 : decode cX5_rootsAll 124 = .ok (.aload_n 0, 1) := by decide +kernel
theorem dX5_rootsAll_125 : decode cX5_rootsAll 125 = .ok (.getfield 7, 3) := by decide +kernel
theorem dX5_rootsAll_128 : decode cX5_rootsAll 128 = .ok (.bipush 6, 2) := by decide +kernel
theorem dX5_rootsAll_130 : decode cX5_rootsAll 130 = .ok (.iload_n 1, 1) := by decide +kernel
theorem dX5_rootsAll_131 : decode cX5_rootsAll 131 = .ok (.iastore, 1) := by decide +kernel
theorem dX5_rootsAll_132 : decode cX5_rootsAll 132 = .ok (.iconst 1, 1) := by decide +kernel
theorem dX5_rootsAll_133 : decode cX5_rootsAll 133 = .ok (.ireturn, 1) := by decide +kernel
theorem dX5_beyond_0 : decode cX5_beyond 0 = .ok (.iload_n 1, 1) := by decide +kernel
theorem dX5_beyond_1 : decode cX5_beyond 1 = .ok (.istore_n 2, 1) := by decide +kernel
theorem dX5_beyond_2 : decode cX5_beyond 2 = .ok (.iload_n 2, 1) := by decide +kernel
theorem dX5_beyond_3 : decode cX5_beyond 3 = .ok (.sipush 1100, 3) := by decide +kernel
theorem dX5_beyond_6 : decode cX5_beyond 6 = .ok (.if_icmp .lt 52, 3) := by decide +kernel
theorem dX5_beyond_9 : decode cX5_beyond 9 = .ok (.iload_n 2, 1) := by decide +kernel
theorem dX5_beyond_10 : decode cX5_beyond 10 = .ok (.sipush 1100, 3) := by decide +kernel
theorem dX5_beyond_13 : decode cX5_beyond 13 = .ok (.isub, 1) := by decide +kernel
theorem dX5_beyond_14 : decode cX5_beyond 14 = .ok (.istore_n 3, 1) := by decide +kernel
theorem dX5_beyond_15 : decode cX5_beyond 15 = .ok (.iload_n 3, 1) := by decide +kernel
theorem dX5_beyond_16 : decode cX5_beyond 16 = .ok (.iconst 2, 1) := by decide +kernel
theorem dX5_beyond_17 : decode cX5_beyond 17 = .ok (.irem, 1) := by decide +kernel
theorem dX5_beyond_18 : decode cX5_beyond 18 = .ok (.ifCond .ne 9, 3) := by decide +kernel
theorem dX5_beyond_21 : decode cX5_beyond 21 = .ok (.iload_n 3, 1) := by decide +kernel
theorem dX5_beyond_22 : decode cX5_beyond 22 = .ok (.iconst 1, 1) := by decide +kernel
theorem dX5_beyond_23 : decode cX5_beyond 23 = .ok (.iadd, 1) := by decide +kernel
theorem dX5_beyond_24 : decode cX5_beyond 24 = .ok (.goto 6, 3) := by decide +kernel
theorem dX5_beyond_27 : decode cX5_beyond 27 = .ok (.iload_n 3, 1) := by decide +kernel
theorem dX5_beyond_28 : decode cX5_beyond 28 = .ok (.iconst 1, 1) := by decide +kernel
theorem dX5_beyond_29 : decode cX5_beyond 29 = .ok (.isub, 1) := by decide +kernel
theorem dX5_beyond_30 : decode cX5_beyond 30 = .ok (.istore 4, 2) := by decide +kernel
theorem dX5_beyond_32 : decode cX5_beyond 32 = .ok (.aload_n 0, 1) := by decide +kernel
theorem dX5_beyond_33 : decode cX5_beyond 33 = .ok (.getfield 33, 3) := by decide +kernel
theorem dX5_beyond_36 : decode cX5_beyond 36 = .ok (.iload_n 3, 1) := by decide +kernel
theorem dX5_beyond_37 : decode cX5_beyond 37 = .ok (.iconst 1, 1) := by decide +kernel
theorem dX5_beyond_38 : decode cX5_beyond 38 = .ok (.bastore, 1) := by decide +kernel
theorem dX5_beyond_39 : decode cX5_beyond 39 = .ok (.aload_n 0, 1) := by decide +kernel
theorem dX5_beyond_40 : decode cX5_beyond 40 = .ok (.getfield 33, 3) := by decide +kernel
theorem dX5_beyond_43 : decode cX5_beyond 43 = .ok (.iload 4, 2) := by decide +kernel
theorem dX5_beyond_45 : decode cX5_beyond 45 = .ok (.iconst 1, 1) := by decide +kernel
theorem dX5_beyond_46 : decode cX5_beyond 46 = .ok (.bastore, 1) := by decide +kernel
theorem dX5_beyond_47 : decode cX5_beyond 47 = .ok (.aload_n 0, 1) := by decide +kernel
theorem dX5_beyond_48 : decode cX5_beyond 48 = .ok (.getfield 27, 3) := by decide +kernel
theorem dX5_beyond_51 : decode cX5_beyond 51 = .ok (.iload 4, 2) := by decide +kernel
theorem dX5_beyond_53 : decode cX5_beyond 53 = .ok (.iaload, 1) := by decide +kernel
theorem dX5_beyond_54 : decode cX5_beyond 54 = .ok (.istore_n 2, 1) := by decide +kernel
theorem dX5_beyond_55 : decode cX5_beyond 55 = .ok (.goto (-53), 3) := by decide +kernel
theorem dX5_beyond_58 : decode cX5_beyond 58 = .ok (.iload_n 2, 1) := by decide +kernel
theorem dX5_beyond_59 : decode cX5_beyond 59 = .ok (.ireturn, 1) := by decide +kernel
set_option maxRecDepth 20000 in
theorem ggX5_joinsWires_X5_beyond : GoodIn wsX5_joinsWires wsX5_beyond := goodIn_r _ [9, 1, 4, 14, 15, 16, 17, 18, 19, 20, 21, 22, 23, 24, 25, 26, 27, 28, 29, 30, 31, 32, 33, 34, 35, 36, 37, 38, 39, 40, 41, 42, 43, 44, 45, 46, 47, 48, 49, 50, 51, 52, 53, 54, 55] (by decide +kernel) (by decide +kernel)
set_option maxRecDepth 20000 in
theorem gX5_joinsWires_X5_beyond : GoodIn wsX5_joinsWires (wsV RX5 193 RX5 yX5_beyond wsX5_beyond) := goodIn_app (goodIn_of _ (by decide +kernel)) ggX5_joinsWires_X5_beyond
set_option maxRecDepth 20000 in
theorem ggX5_joinsWires_X5_links : GoodIn wsX5_joinsWires wsX5_links := goodIn_r _ [13, 2, 14, 15, 16, 17, 18, 19, 20, 21, 22, 23, 24, 25, 26, 27, 28, 29, 30, 31, 32, 33, 34, 35, 36, 37, 38, 39, 40, 41, 42, 43, 44, 45, 46, 47, 48, 49, 50, 51, 52, 53, 54, 55] (by decide +kernel) (by decide +kernel)
set_option maxRecDepth 20000 in
theorem gX5_joinsWires_X5_links : GoodIn wsX5_joinsWires (wsV RX5 172 RX5 yX5_links wsX5_links) := goodIn_app (goodIn_of _ (by decide +kernel)) ggX5_joinsWires_X5_links
theorem dX5_joinsWires_0 : decode cX5_joinsWires 0 = .ok (.iconst 0, 1) := by decide +kernel
theorem dX5_joinsWires_1 : decode cX5_joinsWires 1 = .ok (.istore_n 1, 1) := by decide +kernel
theorem dX5_joinsWires_2 : decode cX5_joinsWires 2 = .ok (.iload_n 1, 1) := by decide +kernel
theorem dX5_joinsWires_3 : decode cX5_joinsWires 3 = .ok (.sipush 500, 3) := by decide +kernel
theorem dX5_joinsWires_6 : decode cX5_joinsWires 6 = .ok (.if_icmp .ge 16, 3) := by decide +kernel
theorem dX5_joinsWires_9 : decode cX5_joinsWires 9 = .ok (.aload_n 0, 1) := by decide +kernel
theorem dX5_joinsWires_10 : decode cX5_joinsWires 10 = .ok (.getfield 33, 3) := by decide +kernel
theorem dX5_joinsWires_13 : decode cX5_joinsWires 13 = .ok (.iload_n 1, 1) := by decide +kernel
theorem dX5_joinsWires_14 : decode cX5_joinsWires 14 = .ok (.iconst 0, 1) := by decide +kernel
theorem dX5_joinsWires_15 : decode cX5_joinsWires 15 = .ok (.bastore, 1) := by decide +kernel
theorem dX5_joinsWires_16 : decode cX5_joinsWires 16 = .ok (.iinc 1 1, 3) := by decide +kernel
theorem dX5_joinsWires_19 : decode cX5_joinsWires 19 = .ok (.goto (-17), 3) := by decide +kernel
theorem dX5_joinsWires_22 : decode cX5_joinsWires 22 = .ok (.iconst 0, 1) := by decide +kernel
theorem dX5_joinsWires_23 : decode cX5_joinsWires 23 = .ok (.istore_n 1, 1) := by decide +kernel
theorem dX5_joinsWires_24 : decode cX5_joinsWires 24 = .ok (.iload_n 1, 1) := by decide +kernel
theorem dX5_joinsWires_25 : decode cX5_joinsWires 25 = .ok (.sipush 1016, 3) := by decide +kernel
theorem dX5_joinsWires_28 : decode cX5_joinsWires 28 = .ok (.if_icmp .ge 130, 3) := by decide +kernel
theorem dX5_joinsWires_31 : decode cX5_joinsWires 31 = .ok (.iload_n 1, 1) := by decide +kernel
theorem dX5_joinsWires_32 : decode cX5_joinsWires 32 = .ok (.sipush 900, 3) := by decide +kernel
theorem dX5_joinsWires_35 : decode cX5_joinsWires 35 = .ok (.if_icmp .ge 46, 3) := by decide +kernel
theorem dX5_joinsWires_38 : decode cX5_joinsWires 38 = .ok (.aload_n 0, 1) := by decide +kernel
theorem dX5_joinsWires_39 : decode cX5_joinsWires 39 = .ok (.getfield 7, 3) := by decide +kernel
theorem dX5_joinsWires_42 : decode cX5_joinsWires 42 = .ok (.bipush 30, 2) := by decide +kernel
theorem dX5_joinsWires_44 : decode cX5_joinsWires 44 = .ok (.iload_n 1, 1) := by decide +kernel
theorem dX5_joinsWires_45 : decode cX5_joinsWires 45 = .ok (.iconst 3, 1) := by decide +kernel
theorem dX5_joinsWires_46 : decode cX5_joinsWires 46 = .ok (.idiv, 1) := by decide +kernel
theorem dX5_joinsWires_47 : decode cX5_joinsWires 47 = .ok (.iadd, 1) := by decide +kernel
theorem dX5_joinsWires_48 : decode cX5_joinsWires 48 = .ok (.iaload, 1) := by decide +kernel
theorem dX5_joinsWires_49 : decode cX5_joinsWires 49 = .ok (.ifCond .le 28, 3) := by decide +kernel
theorem dX5_joinsWires_52 : decode cX5_joinsWires 52 = .ok (.iload_n 1, 1) := by decide +kernel
theorem dX5_joinsWires_53 : decode cX5_joinsWires 53 = .ok (.iconst 3, 1) := by decide +kernel
theorem dX5_joinsWires_54 : decode cX5_joinsWires 54 = .ok (.irem, 1) := by decide +kernel
theorem dX5_joinsWires_55 : decode cX5_joinsWires 55 = .ok (.ifCond .eq 18, 3) := by decide +kernel
theorem dX5_joinsWires_58 : decode cX5_joinsWires 58 = .ok (.aload_n 0, 1) := by decide +kernel
theorem dX5_joinsWires_59 : decode cX5_joinsWires 59 = .ok (.getfield 7, 3) := by decide +kernel
theorem dX5_joinsWires_62 : decode cX5_joinsWires 62 = .ok (.bipush 30, 2) := by decide +kernel
theorem dX5_joinsWires_64 : decode cX5_joinsWires 64 = .ok (.iload_n 1, 1) := by decide +kernel
theorem dX5_joinsWires_65 : decode cX5_joinsWires 65 = .ok (.iconst 3, 1) := by decide +kernel
theorem dX5_joinsWires_66 : decode cX5_joinsWires 66 = .ok (.idiv, 1) := by decide +kernel
theorem dX5_joinsWires_67 : decode cX5_joinsWires 67 = .ok (.iadd, 1) := by decide +kernel
theorem dX5_joinsWires_68 : decode cX5_joinsWires 68 = .ok (.iaload, 1) := by decide +kernel
theorem dX5_joinsWires_69 : decode cX5_joinsWires 69 = .ok (.iconst 1, 1) := by decide +kernel
theorem dX5_joinsWires_70 : decode cX5_joinsWires 70 = .ok (.if_icmp .le 7, 3) := by decide +kernel
theorem dX5_joinsWires_73 : decode cX5_joinsWires 73 = .ok (.iconst 1, 1) := by decide +kernel
theorem dX5_joinsWires_74 : decode cX5_joinsWires 74 = .ok (.goto 36, 3) := by decide +kernel
theorem dX5_joinsWires_77 : decode cX5_joinsWires 77 = .ok (.iconst 0, 1) := by decide +kernel
theorem dX5_joinsWires_78 : decode cX5_joinsWires 78 = .ok (.goto 32, 3) := by decide +kernel
theorem dX5_joinsWires_81 : decode cX5_joinsWires 81 = .ok (.iload_n 1, 1) := by decide +kernel
theorem dX5_joinsWires_82 : decode cX5_joinsWires 82 = .ok (.sipush 1000, 3) := by decide +kernel
theorem dX5_joinsWires_85 : decode cX5_joinsWires 85 = .ok (.if_icmp .lt 24, 3) := by decide +kernel
theorem dX5_joinsWires_88 : decode cX5_joinsWires 88 = .ok (.aload_n 0, 1) := by decide +kernel
theorem dX5_joinsWires_89 : decode cX5_joinsWires 89 = .ok (.getfield 7, 3) := by decide +kernel
theorem dX5_joinsWires_92 : decode cX5_joinsWires 92 = .ok (.bipush 14, 2) := by decide +kernel
theorem dX5_joinsWires_94 : decode cX5_joinsWires 94 = .ok (.iload_n 1, 1) := by decide +kernel
theorem dX5_joinsWires_95 : decode cX5_joinsWires 95 = .ok (.iadd, 1) := by decide +kernel
theorem dX5_joinsWires_96 : decode cX5_joinsWires 96 = .ok (.sipush 1000, 3) := by decide +kernel
theorem dX5_joinsWires_99 : decode cX5_joinsWires 99 = .ok (.isub, 1) := by decide +kernel
theorem dX5_joinsWires_100 : decode cX5_joinsWires 100 = .ok (.iaload, 1) := by decide +kernel
theorem dX5_joinsWires_101 : decode cX5_joinsWires 101 = .ok (.iconst 1, 1) := by decide +kernel
theorem dX5_joinsWires_102 : decode cX5_joinsWires 102 = .ok (.if_icmp .ne 7, 3) := by decide +kernel
theorem dX5_joinsWires_105 : decode cX5_joinsWires 105 = .ok (.iconst 1, 1) := by decide +kernel
theorem dX5_joinsWires_106 : decode cX5_joinsWires 106 = .ok (.goto 4, 3) := by decide +kernel
theorem dX5_joinsWires_109 : decode cX5_joinsWires 109 = .ok (.iconst 0, 1) := by decide +kernel
theorem dX5_joinsWires_110 : decode cX5_joinsWires 110 = .ok (.istore_n 2, 1) := by decide +kernel
theorem dX5_joinsWires_111 : decode cX5_joinsWires 111 = .ok (.iload_n 2, 1) := by decide +kernel
theorem dX5_joinsWires_112 : decode cX5_joinsWires 112 = .ok (.ifCond .eq 40, 3) := by decide +kernel
theorem dX5_joinsWires_115 : decode cX5_joinsWires 115 = .ok (.aload_n 0, 1) := by decide +kernel
theorem dX5_joinsWires_116 : decode cX5_joinsWires 116 = .ok (.getfield 7, 3) := by decide +kernel
theorem dX5_joinsWires_119 : decode cX5_joinsWires 119 = .ok (.sipush 630, 3) := by decide +kernel
theorem dX5_joinsWires_122 : decode cX5_joinsWires 122 = .ok (.iload_n 1, 1) := by decide +kernel
theorem dX5_joinsWires_123 : decode cX5_joinsWires 123 = .ok (.iadd, 1) := by decide +kernel
theorem dX5_joinsWires_124 : decode cX5_joinsWires 124 = .ok (.iaload, 1) := by decide +kernel
theorem dX5_joinsWires_125 : decode cX5_joinsWires 125 = .ok (.sipush 1100, 3) := by decide +kernel
theorem dX5_joinsWires_128 : decode cX5_joinsWires 128 = .ok (.if_icmp .lt 24, 3) := by decide +kernel
theorem dX5_joinsWires_131 : decode cX5_joinsWires 131 = .ok (.aload_n 0, 1) := by decide +kernel
theorem dX5_joinsWires_132 : decode cX5_joinsWires 132 = .ok (.aload_n 0, 1) := by decide +kernel
theorem dX5_joinsWires_133 : decode cX5_joinsWires 133 = .ok (.getfield 7, 3) := by decide +kernel
theorem dX5_joinsWires_136 : decode cX5_joinsWires 136 = .ok (.sipush 630, 3) := by decide +kernel
theorem dX5_joinsWires_139 : decode cX5_joinsWires 139 = .ok (.iload_n 1, 1) := by decide +kernel
theorem dX5_joinsWires_140 : decode cX5_joinsWires 140 = .ok (.iadd, 1) := by decide +kernel
theorem dX5_joinsWires_141 : decode cX5_joinsWires 141 = .ok (.iaload, 1) := by decide +kernel
theorem dX5_joinsWires_142 : decode cX5_joinsWires 142 = .ok (.invokevirtual 193, 3) := by decide +kernel
theorem dX5_joinsWires_145 : decode cX5_joinsWires 145 = .ok (.istore_n 3, 1) := by decide +kernel
theorem dX5_joinsWires_146 : decode cX5_joinsWires 146 = .ok (.aload_n 0, 1) := by decide +kernel
theorem dX5_joinsWires_147 : decode cX5_joinsWires 147 = .ok (.iload_n 1, 1) := by decide +kernel
theorem dX5_joinsWires_148 : decode cX5_joinsWires 148 = .ok (.iload_n 3, 1) := by decide +kernel
theorem dX5_joinsWires_149 : decode cX5_joinsWires 149 = .ok (.invokevirtual 172, 3) := by decide +kernel
theorem dX5_joinsWires_152 : decode cX5_joinsWires 152 = .ok (.iinc 1 1, 3) := by decide +kernel
theorem dX5_joinsWires_155 : decode cX5_joinsWires 155 = .ok (.goto (-131), 3) := by decide +kernel
theorem dX5_joinsWires_158 : decode cX5_joinsWires 158 = .ok (.iconst 0, 1) := by decide +kernel
theorem dX5_joinsWires_159 : decode cX5_joinsWires 159 = .ok (.istore_n 1, 1) := by decide +kernel
theorem dX5_joinsWires_160 : decode cX5_joinsWires 160 = .ok (.iload_n 1, 1) := by decide +kernel
theorem dX5_joinsWires_161 : decode cX5_joinsWires 161 = .ok (.iconst 2, 1) := by decide +kernel
theorem dX5_joinsWires_162 : decode cX5_joinsWires 162 = .ok (.aload_n 0, 1) := by decide +kernel
theorem dX5_joinsWires_163 : decode cX5_joinsWires 163 = .ok (.getfield 142, 3) := by decide +kernel
theorem dX5_joinsWires_166 : decode cX5_joinsWires 166 = .ok (.imul, 1) := by decide +kernel
theorem dX5_joinsWires_167 : decode cX5_joinsWires 167 = .ok (.if_icmp .ge 84, 3) := by decide +kernel
theorem dX5_joinsWires_170 : decode cX5_joinsWires 170 = .ok (.aload_n 0, 1) := by decide +kernel
theorem dX5_joinsWires_171 : decode cX5_joinsWires 171 = .ok (.getfield 33, 3) := by decide +kernel
theorem dX5_joinsWires_174 : decode cX5_joinsWires 174 = .ok (.iload_n 1, 1) := by decide +kernel
theorem dX5_joinsWires_175 : decode cX5_joinsWires 175 = .ok (.baload, 1) := by decide +kernel
theorem dX5_joinsWires_176 : decode cX5_joinsWires 176 = .ok (.ifCond .ne 69, 3) := by decide +kernel
theorem dX5_joinsWires_179 : decode cX5_joinsWires 179 = .ok (.aload_n 0, 1) := by decide +kernel
theorem dX5_joinsWires_180 : decode cX5_joinsWires 180 = .ok (.getfield 7, 3) := by decide +kernel
theorem dX5_joinsWires_183 : decode cX5_joinsWires 183 = .ok (.bipush 7, 2) := by decide +kernel
theorem dX5_joinsWires_185 : decode cX5_joinsWires 185 = .ok (.dup2, 1) := by decide +kernel
theorem dX5_joinsWires_186 : decode cX5_joinsWires 186 = .ok (.iaload, 1) := by decide +kernel
theorem dX5_joinsWires_187 : decode cX5_joinsWires 187 = .ok (.iconst 1, 1) := by decide +kernel
theorem dX5_joinsWires_188 : decode cX5_joinsWires 188 = .ok (.iadd, 1) := by decide +kernel
theorem dX5_joinsWires_189 : decode cX5_joinsWires 189 = .ok (.iastore, 1) := by decide +kernel
theorem dX5_joinsWires_190 : decode cX5_joinsWires 190 = .ok (.iload_n 1, 1) := by decide +kernel
theorem dX5_joinsWires_191 : decode cX5_joinsWires 191 = .ok (.istore_n 2, 1) := by decide +kernel
theorem dX5_joinsWires_192 : decode cX5_joinsWires 192 = .ok (.aload_n 0, 1) := by decide +kernel
theorem dX5_joinsWires_193 : decode cX5_joinsWires 193 = .ok (.getfield 33, 3) := by decide +kernel
theorem dX5_joinsWires_196 : decode cX5_joinsWires 196 = .ok (.iload_n 2, 1) := by decide +kernel
theorem dX5_joinsWires_197 : decode cX5_joinsWires 197 = .ok (.baload, 1) := by decide +kernel
theorem dX5_joinsWires_198 : decode cX5_joinsWires 198 = .ok (.ifCond .ne 47, 3) := by decide +kernel
theorem dX5_joinsWires_201 : decode cX5_joinsWires 201 = .ok (.iload_n 2, 1) := by decide +kernel
theorem dX5_joinsWires_202 : decode cX5_joinsWires 202 = .ok (.iconst 2, 1) := by decide +kernel
theorem dX5_joinsWires_203 : decode cX5_joinsWires 203 = .ok (.irem, 1) := by decide +kernel
theorem dX5_joinsWires_204 : decode cX5_joinsWires 204 = .ok (.ifCond .ne 9, 3) := by decide +kernel
theorem dX5_joinsWires_207 : decode cX5_joinsWires 207 = .ok (.iload_n 2, 1) := by decide +kernel
theorem dX5_joinsWires_208 : decode cX5_joinsWires 208 = .ok (.iconst 1, 1) := by decide +kernel
theorem dX5_joinsWires_209 : decode cX5_joinsWires 209 = .ok (.iadd, 1) := by decide +kernel
theorem dX5_joinsWires_210 : decode cX5_joinsWires 210 = .ok (.goto 6, 3) := by decide +kernel
theorem dX5_joinsWires_213 : decode cX5_joinsWires 213 = .ok (.iload_n 2, 1) := by decide +kernel
theorem dX5_joinsWires_214 : decode cX5_joinsWires 214 = .ok (.iconst 1, 1) := by decide +kernel
theorem dX5_joinsWires_215 : decode cX5_joinsWires 215 = .ok (.isub, 1) := by decide +kernel
theorem dX5_joinsWires_216 : decode cX5_joinsWires 216 = .ok (.istore_n 3, 1) := by decide +kernel
theorem dX5_joinsWires_217 : decode cX5_joinsWires 217 = .ok (.aload_n 0, 1) := by decide +kernel
theorem dX5_joinsWires_218 : decode cX5_joinsWires 218 = .ok (.getfield 33, 3) := by decide +kernel
theorem dX5_joinsWires_221 : decode cX5_joinsWires 221 = .ok (.iload_n 2, 1) := by decide +kernel
theorem dX5_joinsWires_222 : decode cX5_joinsWires 222 = .ok (.iconst 1, 1) := by decide +kernel
theorem dX5_joinsWires_223 : decode cX5_joinsWires 223 = .ok (.bastore, 1) := by decide +kernel
theorem dX5_joinsWires_224 : decode cX5_joinsWires 224 = .ok (.aload_n 0, 1) := by decide +kernel
theorem dX5_joinsWires_225 : decode cX5_joinsWires 225 = .ok (.getfield 33, 3) := by decide +kernel
theorem dX5_joinsWires_228 : decode cX5_joinsWires 228 = .ok (.iload_n 3, 1) := by decide +kernel
theorem dX5_joinsWires_229 : decode cX5_joinsWires 229 = .ok (.iconst 1, 1) := by decide +kernel
theorem dX5_joinsWires_230 : decode cX5_joinsWires 230 = .ok (.bastore, 1) := by decide +kernel
theorem dX5_joinsWires_231 : decode cX5_joinsWires 231 = .ok (.aload_n 0, 1) := by decide +kernel
theorem dX5_joinsWires_232 : decode cX5_joinsWires 232 = .ok (.getfield 27, 3) := by decide +kernel
theorem dX5_joinsWires_235 : decode cX5_joinsWires 235 = .ok (.iload_n 3, 1) := by decide +kernel
theorem dX5_joinsWires_236 : decode cX5_joinsWires 236 = .ok (.iaload, 1) := by decide +kernel
theorem dX5_joinsWires_237 : decode cX5_joinsWires 237 = .ok (.sipush 1100, 3) := by decide +kernel
theorem dX5_joinsWires_240 : decode cX5_joinsWires 240 = .ok (.isub, 1) := by decide +kernel
theorem dX5_joinsWires_241 : decode cX5_joinsWires 241 = .ok (.istore_n 2, 1) := by decide +kernel
theorem dX5_joinsWires_242 : decode cX5_joinsWires 242 = .ok (.goto (-50), 3) := by decide +kernel
theorem dX5_joinsWires_245 : decode cX5_joinsWires 245 = .ok (.iinc 1 2, 3) := by decide +kernel
theorem dX5_joinsWires_248 : decode cX5_joinsWires 248 = .ok (.goto (-88), 3) := by decide +kernel
theorem dX5_joinsWires_251 : decode cX5_joinsWires 251 = .ok (.return_, 1) := by decide +kernel
set_option maxRecDepth 20000 in
theorem ggX5_net_X5_within : GoodIn wsX5_net wsX5_within := goodIn_r _ [18] (by decide +kernel) (by decide +kernel)
set_option maxRecDepth 20000 in
theorem gX5_net_X5_within : GoodIn wsX5_net (va_wsS RX5 89 yX5_within wsX5_within) := goodIn_app (goodIn_of _ (by decide +kernel)) ggX5_net_X5_within
set_option maxRecDepth 20000 in
theorem ggX5_net_X5_copies : GoodIn wsX5_net wsX5_copies := goodIn_r _ [21] (by decide +kernel) (by decide +kernel)
set_option maxRecDepth 20000 in
theorem gX5_net_X5_copies : GoodIn wsX5_net (va_wsS RX5 196 yX5_copies wsX5_copies) := goodIn_app (goodIn_of _ (by decide +kernel)) ggX5_net_X5_copies
set_option maxRecDepth 20000 in
theorem ggX5_net_X5_empties : GoodIn wsX5_net wsX5_empties := goodIn_r _ [25, 8, 130, 131, 132, 133, 134, 135, 136, 137, 138, 139, 140, 141, 142, 143, 144, 145, 146, 147, 148, 149, 150, 151, 152, 153, 154, 155, 156, 157, 158, 159, 160, 161, 162, 163, 164, 165, 166, 167, 168, 169, 170, 171] (by decide +kernel) (by decide +kernel)
set_option maxRecDepth 20000 in
theorem gX5_net_X5_empties : GoodIn wsX5_net (wsV RX5 85 RX5 yX5_empties wsX5_empties) := goodIn_app (goodIn_of _ (by decide +kernel)) ggX5_net_X5_empties
set_option maxRecDepth 20000 in
theorem ggX5_net_X5_go : GoodIn wsX5_net wsX5_go := goodIn_r _ [29, 4, 30, 31, 11, 10, 12, 32, 33, 34, 17, 35, 3, 36, 15, 16, 18, 37, 38, 39, 130, 131, 132, 133, 134, 135, 136, 137, 138, 139, 140, 141, 142, 143, 144, 145, 146, 147, 148, 149, 150, 151, 152, 153, 154, 155, 156, 157, 158, 159, 160, 161, 162, 163, 164, 165, 166, 167, 168, 169, 170, 171] (by decide +kernel) (by decide +kernel)
set_option maxRecDepth 20000 in
theorem gX5_net_X5_go : GoodIn wsX5_net (wsV RX5 139 RX5 yX5_go wsX5_go) := goodIn_app (goodIn_of _ (by decide +kernel)) ggX5_net_X5_go
set_option maxRecDepth 20000 in
theorem ggX5_net_X5_memoryLine : GoodIn wsX5_net wsX5_memoryLine := goodIn_r _ [43, 10, 31, 8, 26, 27, 28, 17, 29, 4, 30, 11, 12, 32, 33, 34, 35, 3, 36, 15, 16, 18, 37, 38, 39, 44, 45, 46, 47, 48, 49, 50, 51, 5, 52, 53, 54, 55, 56, 57, 58, 59, 130, 131, 132, 133, 134, 135, 136, 137, 138, 139, 140, 141, 142, 143, 144, 145, 146, 147, 148, 149, 150, 151, 152, 153, 154, 155, 156, 157, 158, 159, 160, 161, 162, 163, 164, 165, 166, 167, 168, 169, 170, 171] (by decide +kernel) (by decide +kernel)
set_option maxRecDepth 20000 in
theorem gX5_net_X5_memoryLine : GoodIn wsX5_net (wsV RX5 200 RX5 yX5_memoryLine wsX5_memoryLine) := goodIn_app (goodIn_of _ (by decide +kernel)) ggX5_net_X5_memoryLine
set_option maxRecDepth 20000 in
theorem ggX5_net_X5_line : GoodIn wsX5_net wsX5_line := goodIn_r _ [63, 64, 65, 66, 67, 17, 68, 10, 11, 12, 69, 70, 71, 72, 73, 74, 75, 76, 77, 6, 78, 44, 45, 46, 47, 30, 48, 49, 50, 51, 5, 26, 27, 28, 29, 4, 31, 32, 33, 34, 35, 3, 36, 15, 16, 18, 37, 38, 39, 56, 57, 58, 59, 79, 80, 81, 82, 83, 84, 85, 86, 8, 87, 88, 89, 90, 91, 92, 93, 94, 95, 96, 97, 98, 99, 100, 101, 102, 103, 104, 105, 106, 107, 108, 109, 110, 111, 7, 112, 113, 114, 115, 116, 52, 53, 54, 55, 130, 131, 132, 133, 134, 135, 136, 137, 138, 139, 140, 141, 142, 143, 144, 145, 146, 147, 148, 149, 150, 151, 152, 153, 154, 155, 156, 157, 158, 159, 160, 161, 162, 163, 164, 165, 166, 167, 168, 169, 170, 171] (by decide +kernel) (by decide +kernel)
set_option maxRecDepth 20000 in
theorem gX5_net_X5_line : GoodIn wsX5_net (wsV RX5 203 RX5 yX5_line wsX5_line) := goodIn_app (goodIn_of _ (by decide +kernel)) ggX5_net_X5_line
set_option maxRecDepth 20000 in
theorem ggX5_net_X5_rootsAll : GoodIn wsX5_net wsX5_rootsAll := goodIn_r _ [120, 6, 73, 8, 116, 44, 45, 46, 17, 47, 30, 48, 49, 50, 51, 5, 130, 131, 132, 133, 134, 135, 136, 137, 138, 139, 140, 141, 142, 143, 144, 145, 146, 147, 148, 149, 150, 151, 152, 153, 154, 155, 156, 157, 158, 159, 160, 161, 162, 163, 164, 165, 166, 167, 168, 169, 170, 171] (by decide +kernel) (by decide +kernel)
set_option maxRecDepth 20000 in
theorem gX5_net_X5_rootsAll : GoodIn wsX5_net (wsV RX5 206 RX5 yX5_rootsAll wsX5_rootsAll) := goodIn_app (goodIn_of _ (by decide +kernel)) ggX5_net_X5_rootsAll
set_option maxRecDepth 20000 in
theorem ggX5_net_X5_joinsWires : GoodIn wsX5_net wsX5_joinsWires := goodIn_r _ [124, 125, 8, 6, 116, 126, 127, 128, 17, 129, 102, 103, 104, 105, 130, 131, 132, 133, 134, 135, 136, 137, 138, 139, 140, 141, 142, 143, 144, 145, 146, 147, 148, 149, 150, 151, 152, 153, 154, 155, 156, 157, 158, 159, 160, 161, 162, 163, 164, 165, 166, 167, 168, 169, 170, 171] (by decide +kernel) (by decide +kernel)
set_option maxRecDepth 20000 in
theorem gX5_net_X5_joinsWires : GoodIn wsX5_net (wsV RX5 209 RX5 yX5_joinsWires wsX5_joinsWires) := goodIn_app (goodIn_of _ (by decide +kernel)) ggX5_net_X5_joinsWires
theorem dX5_net_0 : decode cX5_net 0 = .ok (.aload_n 0, 1) := by decide +kernel
theorem dX5_net_1 : decode cX5_net 1 = .ok (.iconst 0, 1) := by decide +kernel
theorem dX5_net_2 : decode cX5_net 2 = .ok (.putfield 1, 3) := by decide +kernel
theorem dX5_net_5 : decode cX5_net 5 = .ok (.iload_n 1, 1) := by decide +kernel
theorem dX5_net_6 : decode cX5_net 6 = .ok (.iconst 0, 1) := by decide +kernel
theorem dX5_net_7 : decode cX5_net 7 = .ok (.aload_n 0, 1) := by decide +kernel
theorem dX5_net_8 : decode cX5_net 8 = .ok (.getfield 93, 3) := by decide +kernel
theorem dX5_net_11 : decode cX5_net 11 = .ok (.invokestatic 89, 3) := by decide +kernel
theorem dX5_net_14 : decode cX5_net 14 = .ok (.ifCond .ne 5, 3) := by decide +kernel
theorem dX5_net_17 : decode cX5_net 17 = .ok (.iconst (-1), 1) := by decide +kernel
theorem dX5_net_18 : decode cX5_net 18 = .ok (.ireturn, 1) := by decide +kernel
theorem dX5_net_19 : decode cX5_net 19 = .ok (.aload_n 0, 1) := by decide +kernel
theorem dX5_net_20 : decode cX5_net 20 = .ok (.iload_n 1, 1) := by decide +kernel
theorem dX5_net_21 : decode cX5_net 21 = .ok (.putfield 99, 3) := by decide +kernel
theorem dX5_net_24 : decode cX5_net 24 = .ok (.aload_n 0, 1) := by decide +kernel
theorem dX5_net_25 : decode cX5_net 25 = .ok (.iconst 0, 1) := by decide +kernel
theorem dX5_net_26 : decode cX5_net 26 = .ok (.putfield 93, 3) := by decide +kernel
theorem dX5_net_29 : decode cX5_net 29 = .ok (.aload_n 0, 1) := by decide +kernel
theorem dX5_net_30 : decode cX5_net 30 = .ok (.iconst 0, 1) := by decide +kernel
theorem dX5_net_31 : decode cX5_net 31 = .ok (.putfield 102, 3) := by decide +kernel
theorem dX5_net_34 : decode cX5_net 34 = .ok (.aload_n 0, 1) := by decide +kernel
theorem dX5_net_35 : decode cX5_net 35 = .ok (.iconst 0, 1) := by decide +kernel
theorem dX5_net_36 : decode cX5_net 36 = .ok (.putfield 126, 3) := by decide +kernel
theorem dX5_net_39 : decode cX5_net 39 = .ok (.aload_n 0, 1) := by decide +kernel
theorem dX5_net_40 : decode cX5_net 40 = .ok (.iconst 0, 1) := by decide +kernel
theorem dX5_net_41 : decode cX5_net 41 = .ok (.putfield 142, 3) := by decide +kernel
theorem dX5_net_44 : decode cX5_net 44 = .ok (.aload_n 0, 1) := by decide +kernel
theorem dX5_net_45 : decode cX5_net 45 = .ok (.iconst 0, 1) := by decide +kernel
theorem dX5_net_46 : decode cX5_net 46 = .ok (.putfield 158, 3) := by decide +kernel
theorem dX5_net_49 : decode cX5_net 49 = .ok (.aload_n 0, 1) := by decide +kernel
theorem dX5_net_50 : decode cX5_net 50 = .ok (.getfield 7, 3) := by decide +kernel
theorem dX5_net_53 : decode cX5_net 53 = .ok (.iconst 0, 1) := by decide +kernel
theorem dX5_net_54 : decode cX5_net 54 = .ok (.aload_n 0, 1) := by decide +kernel
theorem dX5_net_55 : decode cX5_net 55 = .ok (.getfield 37, 3) := by decide +kernel
theorem dX5_net_58 : decode cX5_net 58 = .ok (.iconst 0, 1) := by decide +kernel
theorem dX5_net_59 : decode cX5_net 59 = .ok (.invokestatic 196, 3) := by decide +kernel
theorem dX5_net_62 : decode cX5_net 62 = .ok (.aload_n 0, 1) := by decide +kernel
theorem dX5_net_63 : decode cX5_net 63 = .ok (.sipush 200, 3) := by decide +kernel
theorem dX5_net_66 : decode cX5_net 66 = .ok (.invokevirtual 85, 3) := by decide +kernel
theorem dX5_net_69 : decode cX5_net 69 = .ok (.aload_n 0, 1) := by decide +kernel
theorem dX5_net_70 : decode cX5_net 70 = .ok (.invokevirtual 139, 3) := by decide +kernel
theorem dX5_net_73 : decode cX5_net 73 = .ok (.aload_n 0, 1) := by decide +kernel
theorem dX5_net_74 : decode cX5_net 74 = .ok (.getfield 118, 3) := by decide +kernel
theorem dX5_net_77 : decode cX5_net 77 = .ok (.iconst 1, 1) := by decide +kernel
theorem dX5_net_78 : decode cX5_net 78 = .ok (.if_icmp .ne 19, 3) := by decide +kernel
theorem dX5_net_81 : decode cX5_net 81 = .ok (.aload_n 0, 1) := by decide +kernel
theorem dX5_net_82 : decode cX5_net 82 = .ok (.getfield 115, 3) := by decide +kernel
theorem dX5_net_85 : decode cX5_net 85 = .ok (.ldc 121, 2) := by decide +kernel
theorem dX5_net_87 : decode cX5_net 87 = .ok (.if_icmp .ne 10, 3) := by decide +kernel
theorem dX5_net_90 : decode cX5_net 90 = .ok (.aload_n 0, 1) := by decide +kernel
theorem dX5_net_91 : decode cX5_net 91 = .ok (.invokevirtual 200, 3) := by decide +kernel
theorem dX5_net_94 : decode cX5_net 94 = .ok (.ifCond .eq 7, 3) := by decide +kernel
theorem dX5_net_97 : decode cX5_net 97 = .ok (.iconst 1, 1) := by decide +kernel
theorem dX5_net_98 : decode cX5_net 98 = .ok (.goto 4, 3) := by decide +kernel
theorem dX5_net_101 : decode cX5_net 101 = .ok (.iconst 0, 1) := by decide +kernel
theorem dX5_net_102 : decode cX5_net 102 = .ok (.istore_n 2, 1) := by decide +kernel
theorem dX5_net_103 : decode cX5_net 103 = .ok (.iload_n 2, 1) := by decide +kernel
theorem dX5_net_104 : decode cX5_net 104 = .ok (.ifCond .eq 18, 3) := by decide +kernel
theorem dX5_net_107 : decode cX5_net 107 = .ok (.aload_n 0, 1) := by decide +kernel
theorem dX5_net_108 : decode cX5_net 108 = .ok (.getfield 118, 3) := by decide +kernel
theorem dX5_net_111 : decode cX5_net 111 = .ok (.ifCond .eq 11, 3) := by decide +kernel
theorem dX5_net_114 : decode cX5_net 114 = .ok (.aload_n 0, 1) := by decide +kernel
theorem dX5_net_115 : decode cX5_net 115 = .ok (.invokevirtual 203, 3) := by decide +kernel
theorem dX5_net_118 : decode cX5_net 118 = .ok (.istore_n 2, 1) := by decide +kernel
theorem dX5_net_119 : decode cX5_net 119 = .ok (.goto (-16), 3) := by decide +kernel
theorem dX5_net_122 : decode cX5_net 122 = .ok (.iload_n 2, 1) := by decide +kernel
theorem dX5_net_123 : decode cX5_net 123 = .ok (.ifCond .eq 14, 3) := by decide +kernel
theorem dX5_net_126 : decode cX5_net 126 = .ok (.aload_n 0, 1) := by decide +kernel
theorem dX5_net_127 : decode cX5_net 127 = .ok (.invokevirtual 206, 3) := by decide +kernel
theorem dX5_net_130 : decode cX5_net 130 = .ok (.ifCond .eq 7, 3) := by decide +kernel
theorem dX5_net_133 : decode cX5_net 133 = .ok (.iconst 1, 1) := by decide +kernel
theorem dX5_net_134 : decode cX5_net 134 = .ok (.goto 4, 3) := by decide +kernel
theorem dX5_net_137 : decode cX5_net 137 = .ok (.iconst 0, 1) := by decide +kernel
theorem dX5_net_138 : decode cX5_net 138 = .ok (.istore_n 2, 1) := by decide +kernel
theorem dX5_net_139 : decode cX5_net 139 = .ok (.iload_n 2, 1) := by decide +kernel
theorem dX5_net_140 : decode cX5_net 140 = .ok (.ifCond .ne 24, 3) := by decide +kernel
theorem dX5_net_143 : decode cX5_net 143 = .ok (.aload_n 0, 1) := by decide +kernel
theorem dX5_net_144 : decode cX5_net 144 = .ok (.getfield 37, 3) := by decide +kernel
theorem dX5_net_147 : decode cX5_net 147 = .ok (.iconst 0, 1) := by decide +kernel
theorem dX5_net_148 : decode cX5_net 148 = .ok (.aload_n 0, 1) := by decide +kernel
theorem dX5_net_149 : decode cX5_net 149 = .ok (.getfield 7, 3) := by decide +kernel
theorem dX5_net_152 : decode cX5_net 152 = .ok (.iconst 0, 1) := by decide +kernel
theorem dX5_net_153 : decode cX5_net 153 = .ok (.invokestatic 196, 3) := by decide +kernel
theorem dX5_net_156 : decode cX5_net 156 = .ok (.bipush (-2), 2) := by decide +kernel
theorem dX5_net_158 : decode cX5_net 158 = .ok (.aload_n 0, 1) := by decide +kernel
theorem dX5_net_159 : decode cX5_net 159 = .ok (.getfield 126, 3) := by decide +kernel
theorem dX5_net_162 : decode cX5_net 162 = .ok (.isub, 1) := by decide +kernel
theorem dX5_net_163 : decode cX5_net 163 = .ok (.ireturn, 1) := by decide +kernel
theorem dX5_net_164 : decode cX5_net 164 = .ok (.aload_n 0, 1) := by decide +kernel
theorem dX5_net_165 : decode cX5_net 165 = .ok (.invokevirtual 209, 3) := by decide +kernel
theorem dX5_net_168 : decode cX5_net 168 = .ok (.aload_n 0, 1) := by decide +kernel
theorem dX5_net_169 : decode cX5_net 169 = .ok (.iconst 0, 1) := by decide +kernel
theorem dX5_net_170 : decode cX5_net 170 = .ok (.putfield 212, 3) := by decide +kernel
theorem dX5_net_173 : decode cX5_net 173 = .ok (.aload_n 0, 1) := by decide +kernel
theorem dX5_net_174 : decode cX5_net 174 = .ok (.getfield 79, 3) := by decide +kernel
theorem dX5_net_177 : decode cX5_net 177 = .ok (.iconst 0, 1) := by decide +kernel
theorem dX5_net_178 : decode cX5_net 178 = .ok (.iconst 0, 1) := by decide +kernel
theorem dX5_net_179 : decode cX5_net 179 = .ok (.bastore, 1) := by decide +kernel
theorem dX5_net_180 : decode cX5_net 180 = .ok (.aload_n 0, 1) := by decide +kernel
theorem dX5_net_181 : decode cX5_net 181 = .ok (.getfield 79, 3) := by decide +kernel
theorem dX5_net_184 : decode cX5_net 184 = .ok (.iconst 1, 1) := by decide +kernel
theorem dX5_net_185 : decode cX5_net 185 = .ok (.iconst 0, 1) := by decide +kernel
theorem dX5_net_186 : decode cX5_net 186 = .ok (.bastore, 1) := by decide +kernel
theorem dX5_net_187 : decode cX5_net 187 = .ok (.aload_n 0, 1) := by decide +kernel
theorem dX5_net_188 : decode cX5_net 188 = .ok (.getfield 7, 3) := by decide +kernel
theorem dX5_net_191 : decode cX5_net 191 = .ok (.iconst 1, 1) := by decide +kernel
theorem dX5_net_192 : decode cX5_net 192 = .ok (.iaload, 1) := by decide +kernel
theorem dX5_net_193 : decode cX5_net 193 = .ok (.ireturn, 1) := by decide +kernel
set_option maxRecDepth 20000 in
theorem ggX5_facing_X5_linkOf : GoodIn wsX5_facing wsX5_linkOf := goodIn_r _ [5, 6, 7, 8, 9, 10, 11, 12, 13, 14, 15, 16, 17, 18, 19, 20, 21, 22, 23, 24, 25, 26, 27, 28, 29, 30, 31, 32, 33, 34, 35, 36, 37, 38, 39, 40, 41, 42, 43, 44, 45, 46, 47, 48] (by decide +kernel) (by decide +kernel)
set_option maxRecDepth 20000 in
theorem gX5_facing_X5_linkOf : GoodIn wsX5_facing (wsV RX5 215 RX5 yX5_linkOf wsX5_linkOf) := goodIn_app (goodIn_of _ (by decide +kernel)) ggX5_facing_X5_linkOf
theorem dX5_facing_0 : decode cX5_facing 0 = .ok (.aload_n 0, 1) := by decide +kernel
theorem dX5_facing_1 : decode cX5_facing 1 = .ok (.iconst 3, 1) := by decide +kernel
theorem dX5_facing_2 : decode cX5_facing 2 = .ok (.iload_n 1, 1) := by decide +kernel
theorem dX5_facing_3 : decode cX5_facing 3 = .ok (.imul, 1) := by decide +kernel
theorem dX5_facing_4 : decode cX5_facing 4 = .ok (.invokevirtual 215, 3) := by decide +kernel
theorem dX5_facing_7 : decode cX5_facing 7 = .ok (.istore_n 2, 1) := by decide +kernel
theorem dX5_facing_8 : decode cX5_facing 8 = .ok (.iload_n 2, 1) := by decide +kernel
theorem dX5_facing_9 : decode cX5_facing 9 = .ok (.sipush 1000, 3) := by decide +kernel
theorem dX5_facing_12 : decode cX5_facing 12 = .ok (.if_icmp .ge 15, 3) := by decide +kernel
theorem dX5_facing_15 : decode cX5_facing 15 = .ok (.iload_n 2, 1) := by decide +kernel
theorem dX5_facing_16 : decode cX5_facing 16 = .ok (.iconst 3, 1) := by decide +kernel
theorem dX5_facing_17 : decode cX5_facing 17 = .ok (.irem, 1) := by decide +kernel
theorem dX5_facing_18 : decode cX5_facing 18 = .ok (.ifCond .ne 9, 3) := by decide +kernel
theorem dX5_facing_21 : decode cX5_facing 21 = .ok (.iload_n 2, 1) := by decide +kernel
theorem dX5_facing_22 : decode cX5_facing 22 = .ok (.iconst 3, 1) := by decide +kernel
theorem dX5_facing_23 : decode cX5_facing 23 = .ok (.idiv, 1) := by decide +kernel
theorem dX5_facing_24 : decode cX5_facing 24 = .ok (.goto 4, 3) := by decide +kernel
theorem dX5_facing_27 : decode cX5_facing 27 = .ok (.iconst (-1), 1) := by decide +kernel
theorem dX5_facing_28 : decode cX5_facing 28 = .ok (.ireturn, 1) := by decide +kernel
set_option maxRecDepth 20000 in
theorem ggX5_isPair_X5_isNode : GoodIn wsX5_isPair wsX5_isNode := goodIn_r _ [5, 6, 7, 8, 4, 9, 18, 19, 20, 21, 22, 23, 24, 25, 26, 27, 28, 29, 30, 31, 32, 33, 34, 35, 36, 37, 38, 39, 40, 41, 42, 43, 44, 45, 46, 47, 48, 49, 50, 51, 52, 53, 54, 55, 56, 57, 58, 59] (by decide +kernel) (by decide +kernel)
set_option maxRecDepth 20000 in
theorem gX5_isPair_X5_isNode : GoodIn wsX5_isPair (wsV RX5 218 RX5 yX5_isNode wsX5_isNode) := goodIn_app (goodIn_of _ (by decide +kernel)) ggX5_isPair_X5_isNode
set_option maxRecDepth 20000 in
theorem ggX5_isPair_X5_facing : GoodIn wsX5_isPair wsX5_facing := goodIn_r _ [13, 14, 15, 16, 4, 17, 6, 18, 19, 20, 21, 22, 23, 24, 25, 26, 27, 28, 29, 30, 31, 32, 33, 34, 35, 36, 37, 38, 39, 40, 41, 42, 43, 44, 45, 46, 47, 48, 49, 50, 51, 52, 53, 54, 55, 56, 57, 58, 59] (by decide +kernel) (by decide +kernel)
set_option maxRecDepth 20000 in
theorem gX5_isPair_X5_facing : GoodIn wsX5_isPair (wsV RX5 221 RX5 yX5_facing wsX5_facing) := goodIn_app (goodIn_of _ (by decide +kernel)) ggX5_isPair_X5_facing
theorem dX5_isPair_0 : decode cX5_isPair 0 = .ok (.aload_n 0, 1) := by decide +kernel
theorem dX5_isPair_1 : decode cX5_isPair 1 = .ok (.iload_n 1, 1) := by decide +kernel
theorem dX5_isPair_2 : decode cX5_isPair 2 = .ok (.invokevirtual 218, 3) := by decide +kernel
theorem dX5_isPair_5 : decode cX5_isPair 5 = .ok (.ifCond .eq 16, 3) := by decide +kernel
theorem dX5_isPair_8 : decode cX5_isPair 8 = .ok (.aload_n 0, 1) := by decide +kernel
theorem dX5_isPair_9 : decode cX5_isPair 9 = .ok (.iload_n 1, 1) := by decide +kernel
theorem dX5_isPair_10 : decode cX5_isPair 10 = .ok (.invokevirtual 221, 3) := by decide +kernel
theorem dX5_isPair_13 : decode cX5_isPair 13 = .ok (.iload_n 1, 1) := by decide +kernel
theorem dX5_isPair_14 : decode cX5_isPair 14 = .ok (.if_icmp .le 7, 3) := by decide +kernel
theorem dX5_isPair_17 : decode cX5_isPair 17 = .ok (.iconst 1, 1) := by decide +kernel
theorem dX5_isPair_18 : decode cX5_isPair 18 = .ok (.goto 4, 3) := by decide +kernel
theorem dX5_isPair_21 : decode cX5_isPair 21 = .ok (.iconst 0, 1) := by decide +kernel
theorem dX5_isPair_22 : decode cX5_isPair 22 = .ok (.ireturn, 1) := by decide +kernel
set_option maxRecDepth 20000 in
theorem ggX5_ruleOf_X5_kindOf : GoodIn wsX5_ruleOf wsX5_kindOf := goodIn_r _ [5, 6, 15, 16, 17, 18, 19, 20, 21, 22, 23, 24, 25, 26, 27, 28, 29, 30, 31, 32, 33, 34, 35, 36, 37, 38, 39, 40, 41, 42, 43, 44, 45, 46, 47, 48, 49, 50, 51, 52, 53, 54, 55, 56] (by decide +kernel) (by decide +kernel)
set_option maxRecDepth 20000 in
theorem gX5_ruleOf_X5_kindOf : GoodIn wsX5_ruleOf (wsV RX5 224 RX5 yX5_kindOf wsX5_kindOf) := goodIn_app (goodIn_of _ (by decide +kernel)) ggX5_ruleOf_X5_kindOf
set_option maxRecDepth 20000 in
theorem ggX5_ruleOf_X5_facing : GoodIn wsX5_ruleOf wsX5_facing := goodIn_r _ [10, 11, 12, 13, 4, 14, 6, 15, 16, 17, 18, 19, 20, 21, 22, 23, 24, 25, 26, 27, 28, 29, 30, 31, 32, 33, 34, 35, 36, 37, 38, 39, 40, 41, 42, 43, 44, 45, 46, 47, 48, 49, 50, 51, 52, 53, 54, 55, 56] (by decide +kernel) (by decide +kernel)
set_option maxRecDepth 20000 in
theorem gX5_ruleOf_X5_facing : GoodIn wsX5_ruleOf (wsV RX5 221 RX5 yX5_facing wsX5_facing) := goodIn_app (goodIn_of _ (by decide +kernel)) ggX5_ruleOf_X5_facing
theorem dX5_ruleOf_0 : decode cX5_ruleOf 0 = .ok (.aload_n 0, 1) := by decide +kernel
theorem dX5_ruleOf_1 : decode cX5_ruleOf 1 = .ok (.iload_n 1, 1) := by decide +kernel
theorem dX5_ruleOf_2 : decode cX5_ruleOf 2 = .ok (.invokevirtual 224, 3) := by decide +kernel
theorem dX5_ruleOf_5 : decode cX5_ruleOf 5 = .ok (.istore_n 2, 1) := by decide +kernel
theorem dX5_ruleOf_6 : decode cX5_ruleOf 6 = .ok (.aload_n 0, 1) := by decide +kernel
theorem dX5_ruleOf_7 : decode cX5_ruleOf 7 = .ok (.aload_n 0, 1) := by decide +kernel
theorem dX5_ruleOf_8 : decode cX5_ruleOf 8 = .ok (.iload_n 1, 1) := by decide +kernel
theorem dX5_ruleOf_9 : decode cX5_ruleOf 9 = .ok (.invokevirtual 221, 3) := by decide +kernel
theorem dX5_ruleOf_12 : decode cX5_ruleOf 12 = .ok (.invokevirtual 224, 3) := by decide +kernel
theorem dX5_ruleOf_15 : decode cX5_ruleOf 15 = .ok (.istore_n 3, 1) := by decide +kernel
theorem dX5_ruleOf_16 : decode cX5_ruleOf 16 = .ok (.iload_n 2, 1) := by decide +kernel
theorem dX5_ruleOf_17 : decode cX5_ruleOf 17 = .ok (.iload_n 3, 1) := by decide +kernel
theorem dX5_ruleOf_18 : decode cX5_ruleOf 18 = .ok (.if_icmp .ne 7, 3) := by decide +kernel
theorem dX5_ruleOf_21 : decode cX5_ruleOf 21 = .ok (.iload_n 2, 1) := by decide +kernel
theorem dX5_ruleOf_22 : decode cX5_ruleOf 22 = .ok (.goto 26, 3) := by decide +kernel
theorem dX5_ruleOf_25 : decode cX5_ruleOf 25 = .ok (.iload_n 2, 1) := by decide +kernel
theorem dX5_ruleOf_26 : decode cX5_ruleOf 26 = .ok (.iload_n 3, 1) := by decide +kernel
theorem dX5_ruleOf_27 : decode cX5_ruleOf 27 = .ok (.iadd, 1) := by decide +kernel
theorem dX5_ruleOf_28 : decode cX5_ruleOf 28 = .ok (.iconst 1, 1) := by decide +kernel
theorem dX5_ruleOf_29 : decode cX5_ruleOf 29 = .ok (.if_icmp .ne 7, 3) := by decide +kernel
theorem dX5_ruleOf_32 : decode cX5_ruleOf 32 = .ok (.iconst 3, 1) := by decide +kernel
theorem dX5_ruleOf_33 : decode cX5_ruleOf 33 = .ok (.goto 15, 3) := by decide +kernel
theorem dX5_ruleOf_36 : decode cX5_ruleOf 36 = .ok (.iload_n 2, 1) := by decide +kernel
theorem dX5_ruleOf_37 : decode cX5_ruleOf 37 = .ok (.iload_n 3, 1) := by decide +kernel
theorem dX5_ruleOf_38 : decode cX5_ruleOf 38 = .ok (.iadd, 1) := by decide +kernel
theorem dX5_ruleOf_39 : decode cX5_ruleOf 39 = .ok (.iconst 2, 1) := by decide +kernel
theorem dX5_ruleOf_40 : decode cX5_ruleOf 40 = .ok (.if_icmp .ne 7, 3) := by decide +kernel
theorem dX5_ruleOf_43 : decode cX5_ruleOf 43 = .ok (.iconst 4, 1) := by decide +kernel
theorem dX5_ruleOf_44 : decode cX5_ruleOf 44 = .ok (.goto 4, 3) := by decide +kernel
theorem dX5_ruleOf_47 : decode cX5_ruleOf 47 = .ok (.iconst 5, 1) := by decide +kernel
theorem dX5_ruleOf_48 : decode cX5_ruleOf 48 = .ok (.ireturn, 1) := by decide +kernel
set_option maxRecDepth 20000 in
theorem ggX5_canReduce_X5_ruleOf : GoodIn wsX5_canReduce wsX5_ruleOf := goodIn_r _ [5, 6, 7, 8, 4, 9, 10, 11, 12, 13, 14, 15, 16, 17, 18, 23, 24, 25, 26, 27, 28, 29, 30, 31, 32, 33, 34, 35, 36, 37, 38, 39, 40, 41, 42, 43, 44, 45, 46, 47, 48, 49, 50, 51, 52, 53, 54, 55, 56, 57, 58, 59, 60, 61, 62, 63, 64] (by decide +kernel) (by decide +kernel)
set_option maxRecDepth 20000 in
theorem gX5_canReduce_X5_ruleOf : GoodIn wsX5_canReduce (wsV RX5 227 RX5 yX5_ruleOf wsX5_ruleOf) := goodIn_app (goodIn_of _ (by decide +kernel)) ggX5_canReduce_X5_ruleOf
set_option maxRecDepth 20000 in
theorem ggX5_canReduce_X5_hasRoom : GoodIn wsX5_canReduce wsX5_hasRoom := goodIn_r _ [22, 10, 23, 24, 25, 26, 27, 28, 29, 30, 31, 32, 33, 34, 35, 36, 37, 38, 39, 40, 41, 42, 43, 44, 45, 46, 47, 48, 49, 50, 51, 52, 53, 54, 55, 56, 57, 58, 59, 60, 61, 62, 63, 64] (by decide +kernel) (by decide +kernel)
set_option maxRecDepth 20000 in
theorem gX5_canReduce_X5_hasRoom : GoodIn wsX5_canReduce (wsV RX5 152 RX5 yX5_hasRoom wsX5_hasRoom) := goodIn_app (goodIn_of _ (by decide +kernel)) ggX5_canReduce_X5_hasRoom
theorem dX5_canReduce_0 : decode cX5_canReduce 0 = .ok (.aload_n 0, 1) := by decide +kernel
theorem dX5_canReduce_1 : decode cX5_canReduce 1 = .ok (.iload_n 1, 1) := by decide +kernel
theorem dX5_canReduce_2 : decode cX5_canReduce 2 = .ok (.invokevirtual 227, 3) := by decide +kernel
theorem dX5_canReduce_5 : decode cX5_canReduce 5 = .ok (.iconst 5, 1) := by decide +kernel
theorem dX5_canReduce_6 : decode cX5_canReduce 6 = .ok (.if_icmp .lt 11, 3) := by decide +kernel
theorem dX5_canReduce_9 : decode cX5_canReduce 9 = .ok (.aload_n 0, 1) := by decide +kernel
theorem dX5_canReduce_10 : decode cX5_canReduce 10 = .ok (.iconst 2, 1) := by decide +kernel
theorem dX5_canReduce_11 : decode cX5_canReduce 11 = .ok (.invokevirtual 152, 3) := by decide +kernel
theorem dX5_canReduce_14 : decode cX5_canReduce 14 = .ok (.ifCond .eq 7, 3) := by decide +kernel
theorem dX5_canReduce_17 : decode cX5_canReduce 17 = .ok (.iconst 1, 1) := by decide +kernel
theorem dX5_canReduce_18 : decode cX5_canReduce 18 = .ok (.goto 4, 3) := by decide +kernel
theorem dX5_canReduce_21 : decode cX5_canReduce 21 = .ok (.iconst 0, 1) := by decide +kernel
theorem dX5_canReduce_22 : decode cX5_canReduce 22 = .ok (.ireturn, 1) := by decide +kernel
set_option maxRecDepth 20000 in
theorem ggX5_pairs_X5_isPair : GoodIn wsX5_pairs wsX5_isPair := goodIn_r _ [5, 6, 7, 8, 4, 9, 10, 11, 12, 13, 14, 15, 16, 17, 18, 19, 20, 21, 38, 39, 40, 41, 42, 43, 44, 45, 46, 47, 48, 49, 50, 51, 52, 53, 54, 55, 56, 57, 58, 59, 60, 61, 62, 63, 64, 65, 66, 67, 68, 69, 70, 71, 72, 73, 74, 75, 76, 77, 78, 79] (by decide +kernel) (by decide +kernel)
set_option maxRecDepth 20000 in
theorem gX5_pairs_X5_isPair : GoodIn wsX5_pairs (wsV RX5 230 RX5 yX5_isPair wsX5_isPair) := goodIn_app (goodIn_of _ (by decide +kernel)) ggX5_pairs_X5_isPair
set_option maxRecDepth 20000 in
theorem ggX5_pairs_X5_canReduce : GoodIn wsX5_pairs wsX5_canReduce := goodIn_r _ [25, 26, 27, 28, 4, 29, 30, 31, 32, 33, 10, 14, 15, 16, 17, 18, 19, 20, 21, 34, 35, 36, 37, 38, 39, 40, 41, 42, 43, 44, 45, 46, 47, 48, 49, 50, 51, 52, 53, 54, 55, 56, 57, 58, 59, 60, 61, 62, 63, 64, 65, 66, 67, 68, 69, 70, 71, 72, 73, 74, 75, 76, 77, 78, 79] (by decide +kernel) (by decide +kernel)
set_option maxRecDepth 20000 in
theorem gX5_pairs_X5_canReduce : GoodIn wsX5_pairs (wsV RX5 233 RX5 yX5_canReduce wsX5_canReduce) := goodIn_app (goodIn_of _ (by decide +kernel)) ggX5_pairs_X5_canReduce
theorem dX5_pairs_0 : decode cX5_pairs 0 = .ok (.iconst 0, 1) := by decide +kernel
theorem dX5_pairs_1 : decode cX5_pairs 1 = .ok (.istore_n 2, 1) := by decide +kernel
theorem dX5_pairs_2 : decode cX5_pairs 2 = .ok (.iconst 0, 1) := by decide +kernel
theorem dX5_pairs_3 : decode cX5_pairs 3 = .ok (.istore_n 3, 1) := by decide +kernel
theorem dX5_pairs_4 : decode cX5_pairs 4 = .ok (.iload_n 3, 1) := by decide +kernel
theorem dX5_pairs_5 : decode cX5_pairs 5 = .ok (.sipush 300, 3) := by decide +kernel
theorem dX5_pairs_8 : decode cX5_pairs 8 = .ok (.if_icmp .ge 37, 3) := by decide +kernel
theorem dX5_pairs_11 : decode cX5_pairs 11 = .ok (.iload_n 2, 1) := by decide +kernel
theorem dX5_pairs_12 : decode cX5_pairs 12 = .ok (.aload_n 0, 1) := by decide +kernel
theorem dX5_pairs_13 : decode cX5_pairs 13 = .ok (.iload_n 3, 1) := by decide +kernel
theorem dX5_pairs_14 : decode cX5_pairs 14 = .ok (.invokevirtual 230, 3) := by decide +kernel
theorem dX5_pairs_17 : decode cX5_pairs 17 = .ok (.ifCond .eq 19, 3) := by decide +kernel
theorem dX5_pairs_20 : decode cX5_pairs 20 = .ok (.iload_n 1, 1) := by decide +kernel
theorem dX5_pairs_21 : decode cX5_pairs 21 = .ok (.ifCond .eq 11, 3) := by decide +kernel
theorem dX5_pairs_24 : decode cX5_pairs 24 = .ok (.aload_n 0, 1) := by decide +kernel
theorem dX5_pairs_25 : decode cX5_pairs 25 = .ok (.iload_n 3, 1) := by decide +kernel
theorem dX5_pairs_26 : decode cX5_pairs 26 = .ok (.invokevirtual 233, 3) := by decide +kernel
theorem dX5_pairs_29 : decode cX5_pairs 29 = .ok (.ifCond .eq 7, 3) := by decide +kernel
theorem dX5_pairs_32 : decode cX5_pairs 32 = .ok (.iconst 1, 1) := by decide +kernel
theorem dX5_pairs_33 : decode cX5_pairs 33 = .ok (.goto 4, 3) := by decide +kernel
theorem dX5_pairs_36 : decode cX5_pairs 36 = .ok (.iconst 0, 1) := by decide +kernel
theorem dX5_pairs_37 : decode cX5_pairs 37 = .ok (.iadd, 1) := by decide +kernel
theorem dX5_pairs_38 : decode cX5_pairs 38 = .ok (.istore_n 2, 1) := by decide +kernel
theorem dX5_pairs_39 : decode cX5_pairs 39 = .ok (.iinc 3 1, 3) := by decide +kernel
theorem dX5_pairs_42 : decode cX5_pairs 42 = .ok (.goto (-38), 3) := by decide +kernel
theorem dX5_pairs_45 : decode cX5_pairs 45 = .ok (.iload_n 2, 1) := by decide +kernel
theorem dX5_pairs_46 : decode cX5_pairs 46 = .ok (.ireturn, 1) := by decide +kernel
theorem dX5_oldOf_0 : decode cX5_oldOf 0 = .ok (.iconst 0, 1) := by decide +kernel
theorem dX5_oldOf_1 : decode cX5_oldOf 1 = .ok (.istore_n 2, 1) := by decide +kernel
theorem dX5_oldOf_2 : decode cX5_oldOf 2 = .ok (.iload_n 2, 1) := by decide +kernel
theorem dX5_oldOf_3 : decode cX5_oldOf 3 = .ok (.iconst 4, 1) := by decide +kernel
theorem dX5_oldOf_4 : decode cX5_oldOf 4 = .ok (.if_icmp .ge 21, 3) := by decide +kernel
theorem dX5_oldOf_7 : decode cX5_oldOf 7 = .ok (.aload_n 0, 1) := by decide +kernel
theorem dX5_oldOf_8 : decode cX5_oldOf 8 = .ok (.getfield 40, 3) := by decide +kernel
theorem dX5_oldOf_11 : decode cX5_oldOf 11 = .ok (.iload_n 2, 1) := by decide +kernel
theorem dX5_oldOf_12 : decode cX5_oldOf 12 = .ok (.iaload, 1) := by decide +kernel
theorem dX5_oldOf_13 : decode cX5_oldOf 13 = .ok (.iload_n 1, 1) := by decide +kernel
theorem dX5_oldOf_14 : decode cX5_oldOf 14 = .ok (.if_icmp .ne 5, 3) := by decide +kernel
theorem dX5_oldOf_17 : decode cX5_oldOf 17 = .ok (.iload_n 2, 1) := by decide +kernel
theorem dX5_oldOf_18 : decode cX5_oldOf 18 = .ok (.ireturn, 1) := by decide +kernel
theorem dX5_oldOf_19 : decode cX5_oldOf 19 = .ok (.iinc 2 1, 3) := by decide +kernel
theorem dX5_oldOf_22 : decode cX5_oldOf 22 = .ok (.goto (-20), 3) := by decide +kernel
theorem dX5_oldOf_25 : decode cX5_oldOf 25 = .ok (.iconst (-1), 1) := by decide +kernel
theorem dX5_oldOf_26 : decode cX5_oldOf 26 = .ok (.ireturn, 1) := by decide +kernel
set_option maxRecDepth 20000 in
theorem ggX5_hands_X5_oldOf : GoodIn wsX5_hands wsX5_oldOf := goodIn_r _ [7, 8, 14, 15, 16, 17, 18, 19, 20, 21, 22, 23, 24, 25, 26, 27, 28, 29, 30, 31, 32, 33, 34, 35, 36, 37, 38, 39, 40, 41, 42, 43, 44, 45, 46, 47, 48, 49, 50, 51, 52, 53, 54, 55] (by decide +kernel) (by decide +kernel)
set_option maxRecDepth 20000 in
theorem gX5_hands_X5_oldOf : GoodIn wsX5_hands (wsV RX5 236 RX5 yX5_oldOf wsX5_oldOf) := goodIn_app (goodIn_of _ (by decide +kernel)) ggX5_hands_X5_oldOf
set_option maxRecDepth 20000 in
theorem ggX5_hands_X5_links : GoodIn wsX5_hands wsX5_links := goodIn_r _ [12, 13, 14, 15, 16, 17, 18, 19, 20, 21, 22, 23, 24, 25, 26, 27, 28, 29, 30, 31, 32, 33, 34, 35, 36, 37, 38, 39, 40, 41, 42, 43, 44, 45, 46, 47, 48, 49, 50, 51, 52, 53, 54, 55] (by decide +kernel) (by decide +kernel)
set_option maxRecDepth 20000 in
theorem gX5_hands_X5_links : GoodIn wsX5_hands (wsV RX5 172 RX5 yX5_links wsX5_links) := goodIn_app (goodIn_of _ (by decide +kernel)) ggX5_hands_X5_links
theorem dX5_hands_0 : decode cX5_hands 0 = .ok (.iconst 0, 1) := by decide +kernel
theorem dX5_hands_1 : decode cX5_hands 1 = .ok (.istore_n 2, 1) := by decide +kernel
theorem dX5_hands_2 : decode cX5_hands 2 = .ok (.iload_n 2, 1) := by decide +kernel
theorem dX5_hands_3 : decode cX5_hands 3 = .ok (.iload_n 1, 1) := by decide +kernel
theorem dX5_hands_4 : decode cX5_hands 4 = .ok (.if_icmp .ge 50, 3) := by decide +kernel
theorem dX5_hands_7 : decode cX5_hands 7 = .ok (.aload_n 0, 1) := by decide +kernel
theorem dX5_hands_8 : decode cX5_hands 8 = .ok (.aload_n 0, 1) := by decide +kernel
theorem dX5_hands_9 : decode cX5_hands 9 = .ok (.getfield 43, 3) := by decide +kernel
theorem dX5_hands_12 : decode cX5_hands 12 = .ok (.iload_n 2, 1) := by decide +kernel
theorem dX5_hands_13 : decode cX5_hands 13 = .ok (.iaload, 1) := by decide +kernel
theorem dX5_hands_14 : decode cX5_hands 14 = .ok (.invokevirtual 236, 3) := by decide +kernel
theorem dX5_hands_17 : decode cX5_hands 17 = .ok (.istore_n 3, 1) := by decide +kernel
theorem dX5_hands_18 : decode cX5_hands 18 = .ok (.aload_n 0, 1) := by decide +kernel
theorem dX5_hands_19 : decode cX5_hands 19 = .ok (.aload_n 0, 1) := by decide +kernel
theorem dX5_hands_20 : decode cX5_hands 20 = .ok (.getfield 46, 3) := by decide +kernel
theorem dX5_hands_23 : decode cX5_hands 23 = .ok (.iload_n 2, 1) := by decide +kernel
theorem dX5_hands_24 : decode cX5_hands 24 = .ok (.iaload, 1) := by decide +kernel
theorem dX5_hands_25 : decode cX5_hands 25 = .ok (.iload_n 3, 1) := by decide +kernel
theorem dX5_hands_26 : decode cX5_hands 26 = .ok (.iconst (-1), 1) := by decide +kernel
theorem dX5_hands_27 : decode cX5_hands 27 = .ok (.if_icmp .ne 12, 3) := by decide +kernel
theorem dX5_hands_30 : decode cX5_hands 30 = .ok (.aload_n 0, 1) := by decide +kernel
theorem dX5_hands_31 : decode cX5_hands 31 = .ok (.getfield 43, 3) := by decide +kernel
theorem dX5_hands_34 : decode cX5_hands 34 = .ok (.iload_n 2, 1) := by decide +kernel
theorem dX5_hands_35 : decode cX5_hands 35 = .ok (.iaload, 1) := by decide +kernel
theorem dX5_hands_36 : decode cX5_hands 36 = .ok (.goto 9, 3) := by decide +kernel
theorem dX5_hands_39 : decode cX5_hands 39 = .ok (.aload_n 0, 1) := by decide +kernel
theorem dX5_hands_40 : decode cX5_hands 40 = .ok (.getfield 46, 3) := by decide +kernel
theorem dX5_hands_43 : decode cX5_hands 43 = .ok (.iload_n 3, 1) := by decide +kernel
theorem dX5_hands_44 : decode cX5_hands 44 = .ok (.iaload, 1) := by decide +kernel
theorem dX5_hands_45 : decode cX5_hands 45 = .ok (.invokevirtual 172, 3) := by decide +kernel
theorem dX5_hands_48 : decode cX5_hands 48 = .ok (.iinc 2 1, 3) := by decide +kernel
theorem dX5_hands_51 : decode cX5_hands 51 = .ok (.goto (-49), 3) := by decide +kernel
theorem dX5_hands_54 : decode cX5_hands 54 = .ok (.return_, 1) := by decide +kernel
set_option maxRecDepth 20000 in
theorem ggX5_reduces_X5_facing : GoodIn wsX5_reduces wsX5_facing := goodIn_r _ [9, 10, 11, 12, 8, 13, 1, 47, 48, 49, 50, 51, 52, 53, 54, 55, 56, 57, 58, 59, 60, 61, 62, 63, 64, 65, 66, 67, 68, 69, 70, 71, 72, 73, 74, 75, 76, 77, 78, 79, 80, 81, 82, 83, 84, 85, 86, 87, 88] (by decide +kernel) (by decide +kernel)
set_option maxRecDepth 20000 in
theorem gX5_reduces_X5_facing : GoodIn wsX5_reduces (wsV RX5 221 RX5 yX5_facing wsX5_facing) := goodIn_app (goodIn_of _ (by decide +kernel)) ggX5_reduces_X5_facing
set_option maxRecDepth 20000 in
theorem ggX5_reduces_X5_ruleOf : GoodIn wsX5_reduces wsX5_ruleOf := goodIn_r _ [17, 18, 19, 20, 8, 21, 1, 5, 6, 7, 9, 10, 11, 12, 13, 47, 48, 49, 50, 51, 52, 53, 54, 55, 56, 57, 58, 59, 60, 61, 62, 63, 64, 65, 66, 67, 68, 69, 70, 71, 72, 73, 74, 75, 76, 77, 78, 79, 80, 81, 82, 83, 84, 85, 86, 87, 88] (by decide +kernel) (by decide +kernel)
set_option maxRecDepth 20000 in
theorem gX5_reduces_X5_ruleOf : GoodIn wsX5_reduces (wsV RX5 227 RX5 yX5_ruleOf wsX5_ruleOf) := goodIn_app (goodIn_of _ (by decide +kernel)) ggX5_reduces_X5_ruleOf
set_option maxRecDepth 20000 in
theorem ggX5_reduces_X5_kindOf : GoodIn wsX5_reduces wsX5_kindOf := goodIn_r _ [21, 1, 47, 48, 49, 50, 51, 52, 53, 54, 55, 56, 57, 58, 59, 60, 61, 62, 63, 64, 65, 66, 67, 68, 69, 70, 71, 72, 73, 74, 75, 76, 77, 78, 79, 80, 81, 82, 83, 84, 85, 86, 87, 88] (by decide +kernel) (by decide +kernel)
set_option maxRecDepth 20000 in
theorem gX5_reduces_X5_kindOf : GoodIn wsX5_reduces (wsV RX5 224 RX5 yX5_kindOf wsX5_kindOf) := goodIn_app (goodIn_of _ (by decide +kernel)) ggX5_reduces_X5_kindOf
set_option maxRecDepth 20000 in
theorem ggX5_reduces_X5_linkOf : GoodIn wsX5_reduces wsX5_linkOf := goodIn_r _ [13, 1, 47, 48, 49, 50, 51, 52, 53, 54, 55, 56, 57, 58, 59, 60, 61, 62, 63, 64, 65, 66, 67, 68, 69, 70, 71, 72, 73, 74, 75, 76, 77, 78, 79, 80, 81, 82, 83, 84, 85, 86, 87, 88] (by decide +kernel) (by decide +kernel)
set_option maxRecDepth 20000 in
theorem gX5_reduces_X5_linkOf : GoodIn wsX5_reduces (wsV RX5 215 RX5 yX5_linkOf wsX5_linkOf) := goodIn_app (goodIn_of _ (by decide +kernel)) ggX5_reduces_X5_linkOf
set_option maxRecDepth 20000 in
theorem ggX5_reduces_X5_frees : GoodIn wsX5_reduces wsX5_frees := goodIn_r _ [25, 1, 47, 48, 49, 50, 51, 52, 53, 54, 55, 56, 57, 58, 59, 60, 61, 62, 63, 64, 65, 66, 67, 68, 69, 70, 71, 72, 73, 74, 75, 76, 77, 78, 79, 80, 81, 82, 83, 84, 85, 86, 87, 88] (by decide +kernel) (by decide +kernel)
set_option maxRecDepth 20000 in
theorem gX5_reduces_X5_frees : GoodIn wsX5_reduces (wsV RX5 239 RX5 yX5_frees wsX5_frees) := goodIn_app (goodIn_of _ (by decide +kernel)) ggX5_reduces_X5_frees
set_option maxRecDepth 20000 in
theorem ggX5_reduces_X5_strips : GoodIn wsX5_reduces wsX5_strips := goodIn_r _ [29, 30, 3, 1, 31, 32, 33, 8, 34, 2, 35, 36, 37, 38, 47, 48, 49, 50, 51, 52, 53, 54, 55, 56, 57, 58, 59, 60, 61, 62, 63, 64, 65, 66, 67, 68, 69, 70, 71, 72, 73, 74, 75, 76, 77, 78, 79, 80, 81, 82, 83, 84, 85, 86, 87, 88] (by decide +kernel) (by decide +kernel)
set_option maxRecDepth 20000 in
theorem gX5_reduces_X5_strips : GoodIn wsX5_reduces (wsV RX5 242 RX5 yX5_strips wsX5_strips) := goodIn_app (goodIn_of _ (by decide +kernel)) ggX5_reduces_X5_strips
set_option maxRecDepth 20000 in
theorem ggX5_reduces_X5_makes : GoodIn wsX5_reduces wsX5_makes := goodIn_r _ [42, 1, 47, 48, 49, 50, 51, 52, 53, 54, 55, 56, 57, 58, 59, 60, 61, 62, 63, 64, 65, 66, 67, 68, 69, 70, 71, 72, 73, 74, 75, 76, 77, 78, 79, 80, 81, 82, 83, 84, 85, 86, 87, 88] (by decide +kernel) (by decide +kernel)
set_option maxRecDepth 20000 in
theorem gX5_reduces_X5_makes : GoodIn wsX5_reduces (wsV RX5 155 RX5 yX5_makes wsX5_makes) := goodIn_app (goodIn_of _ (by decide +kernel)) ggX5_reduces_X5_makes
set_option maxRecDepth 20000 in
theorem ggX5_reduces_X5_hands : GoodIn wsX5_reduces wsX5_hands := goodIn_r _ [46, 3, 4, 31, 32, 33, 8, 34, 2, 35, 36, 37, 38, 1, 47, 48, 49, 50, 51, 52, 53, 54, 55, 56, 57, 58, 59, 60, 61, 62, 63, 64, 65, 66, 67, 68, 69, 70, 71, 72, 73, 74, 75, 76, 77, 78, 79, 80, 81, 82, 83, 84, 85, 86, 87, 88] (by decide +kernel) (by decide +kernel)
set_option maxRecDepth 20000 in
theorem gX5_reduces_X5_hands : GoodIn wsX5_reduces (wsV RX5 245 RX5 yX5_hands wsX5_hands) := goodIn_app (goodIn_of _ (by decide +kernel)) ggX5_reduces_X5_hands
set_option maxRecDepth 20000 in
theorem ggX5_reduces_X5_links : GoodIn wsX5_reduces wsX5_links := goodIn_r _ [38, 1, 47, 48, 49, 50, 51, 52, 53, 54, 55, 56, 57, 58, 59, 60, 61, 62, 63, 64, 65, 66, 67, 68, 69, 70, 71, 72, 73, 74, 75, 76, 77, 78, 79, 80, 81, 82, 83, 84, 85, 86, 87, 88] (by decide +kernel) (by decide +kernel)
set_option maxRecDepth 20000 in
theorem gX5_reduces_X5_links : GoodIn wsX5_reduces (wsV RX5 172 RX5 yX5_links wsX5_links) := goodIn_app (goodIn_of _ (by decide +kernel)) ggX5_reduces_X5_links
theorem dX5_reduces_0 : decode cX5_reduces 0 = .ok (.aload_n 0, 1) := by decide +kernel
theorem dX5_reduces_1 : decode cX5_reduces 1 = .ok (.iload_n 1, 1) := by decide +kernel
theorem dX5_reduces_2 : decode cX5_reduces 2 = .ok (.invokevirtual 221, 3) := by decide +kernel
theorem dX5_reduces_5 : decode cX5_reduces 5 = .ok (.istore_n 2, 1) := by decide +kernel
theorem dX5_reduces_6 : decode cX5_reduces 6 = .ok (.aload_n 0, 1) := by decide +kernel
theorem dX5_reduces_7 : decode cX5_reduces 7 = .ok (.iload_n 1, 1) := by decide +kernel
theorem dX5_reduces_8 : decode cX5_reduces 8 = .ok (.invokevirtual 227, 3) := by decide +kernel
theorem dX5_reduces_11 : decode cX5_reduces 11 = .ok (.istore_n 3, 1) := by decide +kernel
theorem dX5_reduces_12 : decode cX5_reduces 12 = .ok (.aload_n 0, 1) := by decide +kernel
theorem dX5_reduces_13 : decode cX5_reduces 13 = .ok (.getfield 7, 3) := by decide +kernel
theorem dX5_reduces_16 : decode cX5_reduces 16 = .ok (.bipush 8, 2) := by decide +kernel
theorem dX5_reduces_18 : decode cX5_reduces 18 = .ok (.iload_n 3, 1) := by decide +kernel
theorem dX5_reduces_19 : decode cX5_reduces 19 = .ok (.iadd, 1) := by decide +kernel
theorem dX5_reduces_20 : decode cX5_reduces 20 = .ok (.dup2, 1) := by decide +kernel
theorem dX5_reduces_21 : decode cX5_reduces 21 = .ok (.iaload, 1) := by decide +kernel
theorem dX5_reduces_22 : decode cX5_reduces 22 = .ok (.iconst 1, 1) := by decide +kernel
theorem dX5_reduces_23 : decode cX5_reduces 23 = .ok (.iadd, 1) := by decide +kernel
theorem dX5_reduces_24 : decode cX5_reduces 24 = .ok (.iastore, 1) := by decide +kernel
theorem dX5_reduces_25 : decode cX5_reduces 25 = .ok (.iload_n 3, 1) := by decide +kernel
theorem dX5_reduces_26 : decode cX5_reduces 26 = .ok (.iconst 3, 1) := by decide +kernel
theorem dX5_reduces_27 : decode cX5_reduces 27 = .ok (.if_icmp .eq 8, 3) := by decide +kernel
theorem dX5_reduces_30 : decode cX5_reduces 30 = .ok (.iload_n 3, 1) := by decide +kernel
theorem dX5_reduces_31 : decode cX5_reduces 31 = .ok (.iconst 4, 1) := by decide +kernel
theorem dX5_reduces_32 : decode cX5_reduces 32 = .ok (.if_icmp .ne 19, 3) := by decide +kernel
theorem dX5_reduces_35 : decode cX5_reduces 35 = .ok (.aload_n 0, 1) := by decide +kernel
theorem dX5_reduces_36 : decode cX5_reduces 36 = .ok (.iload_n 1, 1) := by decide +kernel
theorem dX5_reduces_37 : decode cX5_reduces 37 = .ok (.invokevirtual 224, 3) := by decide +kernel
theorem dX5_reduces_40 : decode cX5_reduces 40 = .ok (.ifCond .le 7, 3) := by decide +kernel
theorem dX5_reduces_43 : decode cX5_reduces 43 = .ok (.iconst 1, 1) := by decide +kernel
theorem dX5_reduces_44 : decode cX5_reduces 44 = .ok (.goto 21, 3) := by decide +kernel
theorem dX5_reduces_47 : decode cX5_reduces 47 = .ok (.iconst 0, 1) := by decide +kernel
theorem dX5_reduces_48 : decode cX5_reduces 48 = .ok (.goto 17, 3) := by decide +kernel
theorem dX5_reduces_51 : decode cX5_reduces 51 = .ok (.aload_n 0, 1) := by decide +kernel
theorem dX5_reduces_52 : decode cX5_reduces 52 = .ok (.iload_n 1, 1) := by decide +kernel
theorem dX5_reduces_53 : decode cX5_reduces 53 = .ok (.invokevirtual 224, 3) := by decide +kernel
theorem dX5_reduces_56 : decode cX5_reduces 56 = .ok (.iconst 1, 1) := by decide +kernel
theorem dX5_reduces_57 : decode cX5_reduces 57 = .ok (.if_icmp .ne 7, 3) := by decide +kernel
theorem dX5_reduces_60 : decode cX5_reduces 60 = .ok (.iconst 1, 1) := by decide +kernel
theorem dX5_reduces_61 : decode cX5_reduces 61 = .ok (.goto 4, 3) := by decide +kernel
theorem dX5_reduces_64 : decode cX5_reduces 64 = .ok (.iconst 0, 1) := by decide +kernel
theorem dX5_reduces_65 : decode cX5_reduces 65 = .ok (.istore 4, 2) := by decide +kernel
theorem dX5_reduces_67 : decode cX5_reduces 67 = .ok (.iload 4, 2) := by decide +kernel
theorem dX5_reduces_69 : decode cX5_reduces 69 = .ok (.ifCond .eq 7, 3) := by decide +kernel
theorem dX5_reduces_72 : decode cX5_reduces 72 = .ok (.iload_n 1, 1) := by decide +kernel
theorem dX5_reduces_73 : decode cX5_reduces 73 = .ok (.goto 4, 3) := by decide +kernel
theorem dX5_reduces_76 : decode cX5_reduces 76 = .ok (.iload_n 2, 1) := by decide +kernel
theorem dX5_reduces_77 : decode cX5_reduces 77 = .ok (.istore 5, 2) := by decide +kernel
theorem dX5_reduces_79 : decode cX5_reduces 79 = .ok (.iload 4, 2) := by decide +kernel
theorem dX5_reduces_81 : decode cX5_reduces 81 = .ok (.ifCond .eq 7, 3) := by decide +kernel
theorem dX5_reduces_84 : decode cX5_reduces 84 = .ok (.iload_n 2, 1) := by decide +kernel
theorem dX5_reduces_85 : decode cX5_reduces 85 = .ok (.goto 4, 3) := by decide +kernel
theorem dX5_reduces_88 : decode cX5_reduces 88 = .ok (.iload_n 1, 1) := by decide +kernel
theorem dX5_reduces_89 : decode cX5_reduces 89 = .ok (.istore 6, 2) := by decide +kernel
theorem dX5_reduces_91 : decode cX5_reduces 91 = .ok (.iconst 0, 1) := by decide +kernel
theorem dX5_reduces_92 : decode cX5_reduces 92 = .ok (.istore 7, 2) := by decide +kernel
theorem dX5_reduces_94 : decode cX5_reduces 94 = .ok (.iload 7, 2) := by decide +kernel
theorem dX5_reduces_96 : decode cX5_reduces 96 = .ok (.iconst 4, 1) := by decide +kernel
theorem dX5_reduces_97 : decode cX5_reduces 97 = .ok (.if_icmp .ge 56, 3) := by decide +kernel
theorem dX5_reduces_100 : decode cX5_reduces 100 = .ok (.aload_n 0, 1) := by decide +kernel
theorem dX5_reduces_101 : decode cX5_reduces 101 = .ok (.getfield 40, 3) := by decide +kernel
theorem dX5_reduces_104 : decode cX5_reduces 104 = .ok (.iload 7, 2) := by decide +kernel
theorem dX5_reduces_106 : decode cX5_reduces 106 = .ok (.iconst 3, 1) := by decide +kernel
theorem dX5_reduces_107 : decode cX5_reduces 107 = .ok (.iload 7, 2) := by decide +kernel
theorem dX5_reduces_109 : decode cX5_reduces 109 = .ok (.iconst 2, 1) := by decide +kernel
theorem dX5_reduces_110 : decode cX5_reduces 110 = .ok (.if_icmp .ge 8, 3) := by decide +kernel
theorem dX5_reduces_113 : decode cX5_reduces 113 = .ok (.iload 5, 2) := by decide +kernel
theorem dX5_reduces_115 : decode cX5_reduces 115 = .ok (.goto 5, 3) := by decide +kernel
theorem dX5_reduces_118 : decode cX5_reduces 118 = .ok (.iload 6, 2) := by decide +kernel
theorem dX5_reduces_120 : decode cX5_reduces 120 = .ok (.imul, 1) := by decide +kernel
theorem dX5_reduces_121 : decode cX5_reduces 121 = .ok (.iconst 1, 1) := by decide +kernel
theorem dX5_reduces_122 : decode cX5_reduces 122 = .ok (.iadd, 1) := by decide +kernel
theorem dX5_reduces_123 : decode cX5_reduces 123 = .ok (.iload 7, 2) := by decide +kernel
theorem dX5_reduces_125 : decode cX5_reduces 125 = .ok (.iconst 2, 1) := by decide +kernel
theorem dX5_reduces_126 : decode cX5_reduces 126 = .ok (.irem, 1) := by decide +kernel
theorem dX5_reduces_127 : decode cX5_reduces 127 = .ok (.iadd, 1) := by decide +kernel
theorem dX5_reduces_128 : decode cX5_reduces 128 = .ok (.iastore, 1) := by decide +kernel
theorem dX5_reduces_129 : decode cX5_reduces 129 = .ok (.aload_n 0, 1) := by decide +kernel
theorem dX5_reduces_130 : decode cX5_reduces 130 = .ok (.getfield 43, 3) := by decide +kernel
theorem dX5_reduces_133 : decode cX5_reduces 133 = .ok (.iload 7, 2) := by decide +kernel
theorem dX5_reduces_135 : decode cX5_reduces 135 = .ok (.aload_n 0, 1) := by decide +kernel
theorem dX5_reduces_136 : decode cX5_reduces 136 = .ok (.aload_n 0, 1) := by decide +kernel
theorem dX5_reduces_137 : decode cX5_reduces 137 = .ok (.getfield 40, 3) := by decide +kernel
theorem dX5_reduces_140 : decode cX5_reduces 140 = .ok (.iload 7, 2) := by decide +kernel
theorem dX5_reduces_142 : decode cX5_reduces 142 = .ok (.iaload, 1) := by decide +kernel
theorem dX5_reduces_143 : decode cX5_reduces 143 = .ok (.invokevirtual 215, 3) := by decide +kernel
theorem dX5_reduces_146 : decode cX5_reduces 146 = .ok (.iastore, 1) := by decide +kernel
theorem dX5_reduces_147 : decode cX5_reduces 147 = .ok (.iinc 7 1, 3) := by decide +kernel
theorem dX5_reduces_150 : decode cX5_reduces 150 = .ok (.goto (-56), 3) := by decide +kernel
theorem dX5_reduces_153 : decode cX5_reduces 153 = .ok (.aload_n 0, 1) := by decide +kernel
theorem dX5_reduces_154 : decode cX5_reduces 154 = .ok (.iload_n 1, 1) := by decide +kernel
theorem dX5_reduces_155 : decode cX5_reduces 155 = .ok (.invokevirtual 239, 3) := by decide +kernel
theorem dX5_reduces_158 : decode cX5_reduces 158 = .ok (.aload_n 0, 1) := by decide +kernel
theorem dX5_reduces_159 : decode cX5_reduces 159 = .ok (.iload_n 2, 1) := by decide +kernel
theorem dX5_reduces_160 : decode cX5_reduces 160 = .ok (.invokevirtual 239, 3) := by decide +kernel
theorem dX5_reduces_163 : decode cX5_reduces 163 = .ok (.iload_n 3, 1) := by decide +kernel
theorem dX5_reduces_164 : decode cX5_reduces 164 = .ok (.ifCond .ne 4, 3) := by decide +kernel
theorem dX5_reduces_167 : decode cX5_reduces 167 = .ok (.return_, 1) := by decide +kernel
theorem dX5_reduces_168 : decode cX5_reduces 168 = .ok (.iload_n 3, 1) := by decide +kernel
theorem dX5_reduces_169 : decode cX5_reduces 169 = .ok (.iconst 3, 1) := by decide +kernel
theorem dX5_reduces_170 : decode cX5_reduces 170 = .ok (.if_icmp .ge 8, 3) := by decide +kernel
theorem dX5_reduces_173 : decode cX5_reduces 173 = .ok (.aload_n 0, 1) := by decide +kernel
theorem dX5_reduces_174 : decode cX5_reduces 174 = .ok (.invokevirtual 242, 3) := by decide +kernel
theorem dX5_reduces_177 : decode cX5_reduces 177 = .ok (.return_, 1) := by decide +kernel
theorem dX5_reduces_178 : decode cX5_reduces 178 = .ok (.iload_n 3, 1) := by decide +kernel
theorem dX5_reduces_179 : decode cX5_reduces 179 = .ok (.iconst 5, 1) := by decide +kernel
theorem dX5_reduces_180 : decode cX5_reduces 180 = .ok (.if_icmp .ge 49, 3) := by decide +kernel
theorem dX5_reduces_183 : decode cX5_reduces 183 = .ok (.aload_n 0, 1) := by decide +kernel
theorem dX5_reduces_184 : decode cX5_reduces 184 = .ok (.getfield 40, 3) := by decide +kernel
theorem dX5_reduces_187 : decode cX5_reduces 187 = .ok (.iconst 2, 1) := by decide +kernel
theorem dX5_reduces_188 : decode cX5_reduces 188 = .ok (.iconst (-1), 1) := by decide +kernel
theorem dX5_reduces_189 : decode cX5_reduces 189 = .ok (.iastore, 1) := by decide +kernel
theorem dX5_reduces_190 : decode cX5_reduces 190 = .ok (.aload_n 0, 1) := by decide +kernel
theorem dX5_reduces_191 : decode cX5_reduces 191 = .ok (.getfield 40, 3) := by decide +kernel
theorem dX5_reduces_194 : decode cX5_reduces 194 = .ok (.iconst 3, 1) := by decide +kernel
theorem dX5_reduces_195 : decode cX5_reduces 195 = .ok (.iconst (-1), 1) := by decide +kernel
theorem dX5_reduces_196 : decode cX5_reduces 196 = .ok (.iastore, 1) := by decide +kernel
theorem dX5_reduces_197 : decode cX5_reduces 197 = .ok (.aload_n 0, 1) := by decide +kernel
theorem dX5_reduces_198 : decode cX5_reduces 198 = .ok (.getfield 46, 3) := by decide +kernel
theorem dX5_reduces_201 : decode cX5_reduces 201 = .ok (.iconst 0, 1) := by decide +kernel
theorem dX5_reduces_202 : decode cX5_reduces 202 = .ok (.iconst 3, 1) := by decide +kernel
theorem dX5_reduces_203 : decode cX5_reduces 203 = .ok (.aload_n 0, 1) := by decide +kernel
theorem dX5_reduces_204 : decode cX5_reduces 204 = .ok (.iconst 0, 1) := by decide +kernel
theorem dX5_reduces_205 : decode cX5_reduces 205 = .ok (.invokevirtual 155, 3) := by decide +kernel
theorem dX5_reduces_208 : decode cX5_reduces 208 = .ok (.imul, 1) := by decide +kernel
theorem dX5_reduces_209 : decode cX5_reduces 209 = .ok (.iastore, 1) := by decide +kernel
theorem dX5_reduces_210 : decode cX5_reduces 210 = .ok (.aload_n 0, 1) := by decide +kernel
theorem dX5_reduces_211 : decode cX5_reduces 211 = .ok (.getfield 46, 3) := by decide +kernel
theorem dX5_reduces_214 : decode cX5_reduces 214 = .ok (.iconst 1, 1) := by decide +kernel
theorem dX5_reduces_215 : decode cX5_reduces 215 = .ok (.iconst 3, 1) := by decide +kernel
theorem dX5_reduces_216 : decode cX5_reduces 216 = .ok (.aload_n 0, 1) := by decide +kernel
theorem dX5_reduces_217 : decode cX5_reduces 217 = .ok (.iconst 0, 1) := by decide +kernel
theorem dX5_reduces_218 : decode cX5_reduces 218 = .ok (.invokevirtual 155, 3) := by decide +kernel
theorem dX5_reduces_221 : decode cX5_reduces 221 = .ok (.imul, 1) := by decide +kernel
theorem dX5_reduces_222 : decode cX5_reduces 222 = .ok (.iastore, 1) := by decide +kernel
theorem dX5_reduces_223 : decode cX5_reduces 223 = .ok (.aload_n 0, 1) := by decide +kernel
theorem dX5_reduces_224 : decode cX5_reduces 224 = .ok (.iconst 2, 1) := by decide +kernel
theorem dX5_reduces_225 : decode cX5_reduces 225 = .ok (.invokevirtual 245, 3) := by decide +kernel
theorem dX5_reduces_228 : decode cX5_reduces 228 = .ok (.return_, 1) := by decide +kernel
theorem dX5_reduces_229 : decode cX5_reduces 229 = .ok (.aload_n 0, 1) := by decide +kernel
theorem dX5_reduces_230 : decode cX5_reduces 230 = .ok (.iconst 2, 1) := by decide +kernel
theorem dX5_reduces_231 : decode cX5_reduces 231 = .ok (.invokevirtual 155, 3) := by decide +kernel
theorem dX5_reduces_234 : decode cX5_reduces 234 = .ok (.istore 7, 2) := by decide +kernel
theorem dX5_reduces_236 : decode cX5_reduces 236 = .ok (.aload_n 0, 1) := by decide +kernel
theorem dX5_reduces_237 : decode cX5_reduces 237 = .ok (.iconst 2, 1) := by decide +kernel
theorem dX5_reduces_238 : decode cX5_reduces 238 = .ok (.invokevirtual 155, 3) := by decide +kernel
theorem dX5_reduces_241 : decode cX5_reduces 241 = .ok (.istore 8, 2) := by decide +kernel
theorem dX5_reduces_243 : decode cX5_reduces 243 = .ok (.aload_n 0, 1) := by decide +kernel
theorem dX5_reduces_244 : decode cX5_reduces 244 = .ok (.iconst 1, 1) := by decide +kernel
theorem dX5_reduces_245 : decode cX5_reduces 245 = .ok (.invokevirtual 155, 3) := by decide +kernel
theorem dX5_reduces_248 : decode cX5_reduces 248 = .ok (.istore 9, 2) := by decide +kernel
theorem dX5_reduces_250 : decode cX5_reduces 250 = .ok (.aload_n 0, 1) := by decide +kernel
theorem dX5_reduces_251 : decode cX5_reduces 251 = .ok (.iconst 1, 1) := by decide +kernel
theorem dX5_reduces_252 : decode cX5_reduces 252 = .ok (.invokevirtual 155, 3) := by decide +kernel
theorem dX5_reduces_255 : decode cX5_reduces 255 = .ok (.istore 10, 2) := by decide +kernel
theorem dX5_reduces_257 : decode cX5_reduces 257 = .ok (.aload_n 0, 1) := by decide +kernel
theorem dX5_reduces_258 : decode cX5_reduces 258 = .ok (.getfield 46, 3) := by decide +kernel
theorem dX5_reduces_261 : decode cX5_reduces 261 = .ok (.iconst 0, 1) := by decide +kernel
theorem dX5_reduces_262 : decode cX5_reduces 262 = .ok (.iconst 3, 1) := by decide +kernel
theorem dX5_reduces_263 : decode cX5_reduces 263 = .ok (.iload 7, 2) := by decide +kernel
theorem dX5_reduces_265 : decode cX5_reduces 265 = .ok (.imul, 1) := by decide +kernel
theorem dX5_reduces_266 : decode cX5_reduces 266 = .ok (.iastore, 1) := by decide +kernel
theorem dX5_reduces_267 : decode cX5_reduces 267 = .ok (.aload_n 0, 1) := by decide +kernel
theorem dX5_reduces_268 : decode cX5_reduces 268 = .ok (.getfield 46, 3) := by decide +kernel
theorem dX5_reduces_271 : decode cX5_reduces 271 = .ok (.iconst 1, 1) := by decide +kernel
theorem dX5_reduces_272 : decode cX5_reduces 272 = .ok (.iconst 3, 1) := by decide +kernel
theorem dX5_reduces_273 : decode cX5_reduces 273 = .ok (.iload 8, 2) := by decide +kernel
theorem dX5_reduces_275 : decode cX5_reduces 275 = .ok (.imul, 1) := by decide +kernel
theorem dX5_reduces_276 : decode cX5_reduces 276 = .ok (.iastore, 1) := by decide +kernel
theorem dX5_reduces_277 : decode cX5_reduces 277 = .ok (.aload_n 0, 1) := by decide +kernel
theorem dX5_reduces_278 : decode cX5_reduces 278 = .ok (.getfield 46, 3) := by decide +kernel
theorem dX5_reduces_281 : decode cX5_reduces 281 = .ok (.iconst 2, 1) := by decide +kernel
theorem dX5_reduces_282 : decode cX5_reduces 282 = .ok (.iconst 3, 1) := by decide +kernel
theorem dX5_reduces_283 : decode cX5_reduces 283 = .ok (.iload 9, 2) := by decide +kernel
theorem dX5_reduces_285 : decode cX5_reduces 285 = .ok (.imul, 1) := by decide +kernel
theorem dX5_reduces_286 : decode cX5_reduces 286 = .ok (.iastore, 1) := by decide +kernel
theorem dX5_reduces_287 : decode cX5_reduces 287 = .ok (.aload_n 0, 1) := by decide +kernel
theorem dX5_reduces_288 : decode cX5_reduces 288 = .ok (.getfield 46, 3) := by decide +kernel
theorem dX5_reduces_291 : decode cX5_reduces 291 = .ok (.iconst 3, 1) := by decide +kernel
theorem dX5_reduces_292 : decode cX5_reduces 292 = .ok (.iconst 3, 1) := by decide +kernel
theorem dX5_reduces_293 : decode cX5_reduces 293 = .ok (.iload 10, 2) := by decide +kernel
theorem dX5_reduces_295 : decode cX5_reduces 295 = .ok (.imul, 1) := by decide +kernel
theorem dX5_reduces_296 : decode cX5_reduces 296 = .ok (.iastore, 1) := by decide +kernel
theorem dX5_reduces_297 : decode cX5_reduces 297 = .ok (.aload_n 0, 1) := by decide +kernel
theorem dX5_reduces_298 : decode cX5_reduces 298 = .ok (.iconst 3, 1) := by decide +kernel
theorem dX5_reduces_299 : decode cX5_reduces 299 = .ok (.iload 7, 2) := by decide +kernel
theorem dX5_reduces_301 : decode cX5_reduces 301 = .ok (.imul, 1) := by decide +kernel
theorem dX5_reduces_302 : decode cX5_reduces 302 = .ok (.iconst 1, 1) := by decide +kernel
theorem dX5_reduces_303 : decode cX5_reduces 303 = .ok (.iadd, 1) := by decide +kernel
theorem dX5_reduces_304 : decode cX5_reduces 304 = .ok (.iconst 3, 1) := by decide +kernel
theorem dX5_reduces_305 : decode cX5_reduces 305 = .ok (.iload 9, 2) := by decide +kernel
theorem dX5_reduces_307 : decode cX5_reduces 307 = .ok (.imul, 1) := by decide +kernel
theorem dX5_reduces_308 : decode cX5_reduces 308 = .ok (.iconst 1, 1) := by decide +kernel
theorem dX5_reduces_309 : decode cX5_reduces 309 = .ok (.iadd, 1) := by decide +kernel
theorem dX5_reduces_310 : decode cX5_reduces 310 = .ok (.invokevirtual 172, 3) := by decide +kernel
theorem dX5_reduces_313 : decode cX5_reduces 313 = .ok (.aload_n 0, 1) := by decide +kernel
theorem dX5_reduces_314 : decode cX5_reduces 314 = .ok (.iconst 3, 1) := by decide +kernel
theorem dX5_reduces_315 : decode cX5_reduces 315 = .ok (.iload 7, 2) := by decide +kernel
theorem dX5_reduces_317 : decode cX5_reduces 317 = .ok (.imul, 1) := by decide +kernel
theorem dX5_reduces_318 : decode cX5_reduces 318 = .ok (.iconst 2, 1) := by decide +kernel
theorem dX5_reduces_319 : decode cX5_reduces 319 = .ok (.iadd, 1) := by decide +kernel
theorem dX5_reduces_320 : decode cX5_reduces 320 = .ok (.iconst 3, 1) := by decide +kernel
theorem dX5_reduces_321 : decode cX5_reduces 321 = .ok (.iload 10, 2) := by decide +kernel
theorem dX5_reduces_323 : decode cX5_reduces 323 = .ok (.imul, 1) := by decide +kernel
theorem dX5_reduces_324 : decode cX5_reduces 324 = .ok (.iconst 1, 1) := by decide +kernel
theorem dX5_reduces_325 : decode cX5_reduces 325 = .ok (.iadd, 1) := by decide +kernel
theorem dX5_reduces_326 : decode cX5_reduces 326 = .ok (.invokevirtual 172, 3) := by decide +kernel
theorem dX5_reduces_329 : decode cX5_reduces 329 = .ok (.aload_n 0, 1) := by decide +kernel
theorem dX5_reduces_330 : decode cX5_reduces 330 = .ok (.iconst 3, 1) := by decide +kernel
theorem dX5_reduces_331 : decode cX5_reduces 331 = .ok (.iload 8, 2) := by decide +kernel
theorem dX5_reduces_333 : decode cX5_reduces 333 = .ok (.imul, 1) := by decide +kernel
theorem dX5_reduces_334 : decode cX5_reduces 334 = .ok (.iconst 1, 1) := by decide +kernel
theorem dX5_reduces_335 : decode cX5_reduces 335 = .ok (.iadd, 1) := by decide +kernel
theorem dX5_reduces_336 : decode cX5_reduces 336 = .ok (.iconst 3, 1) := by decide +kernel
theorem dX5_reduces_337 : decode cX5_reduces 337 = .ok (.iload 9, 2) := by decide +kernel
theorem dX5_reduces_339 : decode cX5_reduces 339 = .ok (.imul, 1) := by decide +kernel
theorem dX5_reduces_340 : decode cX5_reduces 340 = .ok (.iconst 2, 1) := by decide +kernel
theorem dX5_reduces_341 : decode cX5_reduces 341 = .ok (.iadd, 1) := by decide +kernel
theorem dX5_reduces_342 : decode cX5_reduces 342 = .ok (.invokevirtual 172, 3) := by decide +kernel
theorem dX5_reduces_345 : decode cX5_reduces 345 = .ok (.aload_n 0, 1) := by decide +kernel
theorem dX5_reduces_346 : decode cX5_reduces 346 = .ok (.iconst 3, 1) := by decide +kernel
theorem dX5_reduces_347 : decode cX5_reduces 347 = .ok (.iload 8, 2) := by decide +kernel
theorem dX5_reduces_349 : decode cX5_reduces 349 = .ok (.imul, 1) := by decide +kernel
theorem dX5_reduces_350 : decode cX5_reduces 350 = .ok (.iconst 2, 1) := by decide +kernel
theorem dX5_reduces_351 : decode cX5_reduces 351 = .ok (.iadd, 1) := by decide +kernel
theorem dX5_reduces_352 : decode cX5_reduces 352 = .ok (.iconst 3, 1) := by decide +kernel
theorem dX5_reduces_353 : decode cX5_reduces 353 = .ok (.iload 10, 2) := by decide +kernel
theorem dX5_reduces_355 : decode cX5_reduces 355 = .ok (.imul, 1) := by decide +kernel
theorem dX5_reduces_356 : decode cX5_reduces 356 = .ok (.iconst 2, 1) := by decide +kernel
theorem dX5_reduces_357 : decode cX5_reduces 357 = .ok (.iadd, 1) := by decide +kernel
theorem dX5_reduces_358 : decode cX5_reduces 358 = .ok (.invokevirtual 172, 3) := by decide +kernel
theorem dX5_reduces_361 : decode cX5_reduces 361 = .ok (.aload_n 0, 1) := by decide +kernel
theorem dX5_reduces_362 : decode cX5_reduces 362 = .ok (.iconst 4, 1) := by decide +kernel
theorem dX5_reduces_363 : decode cX5_reduces 363 = .ok (.invokevirtual 245, 3) := by decide +kernel
theorem dX5_reduces_366 : decode cX5_reduces 366 = .ok (.return_, 1) := by decide +kernel
