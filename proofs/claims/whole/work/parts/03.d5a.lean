theorem dX5_thrown_0 : decode cX5_thrown 0 = .ok (.aload_n 0, 1) := by decide +kernel
theorem dX5_thrown_1 : decode cX5_thrown 1 = .ok (.getfield 1, 3) := by decide +kernel
theorem dX5_thrown_4 : decode cX5_thrown 4 = .ok (.ireturn, 1) := by decide +kernel
theorem dX5_within_0 : decode cX5_within 0 = .ok (.iload_n 0, 1) := by decide +kernel
theorem dX5_within_1 : decode cX5_within 1 = .ok (.iload_n 1, 1) := by decide +kernel
theorem dX5_within_2 : decode cX5_within 2 = .ok (.if_icmp .lt 12, 3) := by decide +kernel
theorem dX5_within_5 : decode cX5_within 5 = .ok (.iload_n 0, 1) := by decide +kernel
theorem dX5_within_6 : decode cX5_within 6 = .ok (.iload_n 2, 1) := by decide +kernel
theorem dX5_within_7 : decode cX5_within 7 = .ok (.if_icmp .gt 7, 3) := by decide +kernel
theorem dX5_within_10 : decode cX5_within 10 = .ok (.iconst 1, 1) := by decide +kernel
theorem dX5_within_11 : decode cX5_within 11 = .ok (.goto 4, 3) := by decide +kernel
theorem dX5_within_14 : decode cX5_within 14 = .ok (.iconst 0, 1) := by decide +kernel
theorem dX5_within_15 : decode cX5_within 15 = .ok (.ireturn, 1) := by decide +kernel
theorem dX5_copies_0 : decode cX5_copies 0 = .ok (.iconst 0, 1) := by decide +kernel
theorem dX5_copies_1 : decode cX5_copies 1 = .ok (.istore 4, 2) := by decide +kernel
theorem dX5_copies_3 : decode cX5_copies 3 = .ok (.iload 4, 2) := by decide +kernel
theorem dX5_copies_5 : decode cX5_copies 5 = .ok (.sipush 1646, 3) := by decide +kernel
theorem dX5_copies_8 : decode cX5_copies 8 = .ok (.if_icmp .ge 21, 3) := by decide +kernel
theorem dX5_copies_11 : decode cX5_copies 11 = .ok (.aload_n 2, 1) := by decide +kernel
theorem dX5_copies_12 : decode cX5_copies 12 = .ok (.iload_n 3, 1) := by decide +kernel
theorem dX5_copies_13 : decode cX5_copies 13 = .ok (.iload 4, 2) := by decide +kernel
theorem dX5_copies_15 : decode cX5_copies 15 = .ok (.iadd, 1) := by decide +kernel
theorem dX5_copies_16 : decode cX5_copies 16 = .ok (.aload_n 0, 1) := by decide +kernel
theorem dX5_copies_17 : decode cX5_copies 17 = .ok (.iload_n 1, 1) := by decide +kernel
theorem dX5_copies_18 : decode cX5_copies 18 = .ok (.iload 4, 2) := by decide +kernel
theorem dX5_copies_20 : decode cX5_copies 20 = .ok (.iadd, 1) := by decide +kernel
theorem dX5_copies_21 : decode cX5_copies 21 = .ok (.iaload, 1) := by decide +kernel
theorem dX5_copies_22 : decode cX5_copies 22 = .ok (.iastore, 1) := by decide +kernel
theorem dX5_copies_23 : decode cX5_copies 23 = .ok (.iinc 4 1, 3) := by decide +kernel
theorem dX5_copies_26 : decode cX5_copies 26 = .ok (.goto (-23), 3) := by decide +kernel
theorem dX5_copies_29 : decode cX5_copies 29 = .ok (.return_, 1) := by decide +kernel
theorem dX5_empties_0 : decode cX5_empties 0 = .ok (.iconst 0, 1) := by decide +kernel
theorem dX5_empties_1 : decode cX5_empties 1 = .ok (.istore_n 2, 1) := by decide +kernel
theorem dX5_empties_2 : decode cX5_empties 2 = .ok (.iload_n 2, 1) := by decide +kernel
theorem dX5_empties_3 : decode cX5_empties 3 = .ok (.sipush 1646, 3) := by decide +kernel
theorem dX5_empties_6 : decode cX5_empties 6 = .ok (.if_icmp .ge 16, 3) := by decide +kernel
theorem dX5_empties_9 : decode cX5_empties 9 = .ok (.aload_n 0, 1) := by decide +kernel
theorem dX5_empties_10 : decode cX5_empties 10 = .ok (.getfield 7, 3) := by decide +kernel
theorem dX5_empties_13 : decode cX5_empties 13 = .ok (.iload_n 2, 1) := by decide +kernel
theorem dX5_empties_14 : decode cX5_empties 14 = .ok (.iconst 0, 1) := by decide +kernel
theorem dX5_empties_15 : decode cX5_empties 15 = .ok (.iastore, 1) := by decide +kernel
theorem dX5_empties_16 : decode cX5_empties 16 = .ok (.iinc 2 1, 3) := by decide +kernel
theorem dX5_empties_19 : decode cX5_empties 19 = .ok (.goto (-17), 3) := by decide +kernel
theorem dX5_empties_22 : decode cX5_empties 22 = .ok (.aload_n 0, 1) := by decide +kernel
theorem dX5_empties_23 : decode cX5_empties 23 = .ok (.getfield 7, 3) := by decide +kernel
theorem dX5_empties_26 : decode cX5_empties 26 = .ok (.iconst 0, 1) := by decide +kernel
theorem dX5_empties_27 : decode cX5_empties 27 = .ok (.iload_n 1, 1) := by decide +kernel
theorem dX5_empties_28 : decode cX5_empties 28 = .ok (.iastore, 1) := by decide +kernel
theorem dX5_empties_29 : decode cX5_empties 29 = .ok (.return_, 1) := by decide +kernel
set_option maxRecDepth 20000 in
theorem ggX5_init_X5_empties : GoodIn wsX5_init wsX5_empties := goodIn_r _ [34, 5, 35, 36, 37, 38, 39, 40, 41, 42, 43, 44, 45, 46, 47, 48, 49, 50, 51, 52, 53, 54, 55, 56, 57, 58, 59, 60, 61, 62, 63, 64, 65, 66, 67, 68, 69, 70, 71, 72, 73, 74, 75, 76] (by decide +kernel) (by decide +kernel)
set_option maxRecDepth 20000 in
theorem gX5_init_X5_empties : GoodIn wsX5_init (wsV RX5 85 RX5 yX5_empties wsX5_empties) := goodIn_app (goodIn_of _ (by decide +kernel)) ggX5_init_X5_empties
theorem dX5_init_0 : decode cX5_init 0 = .ok (.aload_n 0, 1) := by decide +kernel
theorem dX5_init_1 : decode cX5_init 1 = .ok (.invokespecial 11, 3) := by decide +kernel
theorem dX5_init_4 : decode cX5_init 4 = .ok (.aload_n 0, 1) := by decide +kernel
theorem dX5_init_5 : decode cX5_init 5 = .ok (.sipush 1646, 3) := by decide +kernel
theorem dX5_init_8 : decode cX5_init 8 = .ok (.newarray .int, 2) := by decide +kernel
theorem dX5_init_10 : decode cX5_init 10 = .ok (.putfield 7, 3) := by decide +kernel
theorem dX5_init_13 : decode cX5_init 13 = .ok (.aload_n 0, 1) := by decide +kernel
theorem dX5_init_14 : decode cX5_init 14 = .ok (.sipush 500, 3) := by decide +kernel
theorem dX5_init_17 : decode cX5_init 17 = .ok (.newarray .byte, 2) := by decide +kernel
theorem dX5_init_19 : decode cX5_init 19 = .ok (.putfield 17, 3) := by decide +kernel
theorem dX5_init_22 : decode cX5_init 22 = .ok (.aload_n 0, 1) := by decide +kernel
theorem dX5_init_23 : decode cX5_init 23 = .ok (.sipush 250, 3) := by decide +kernel
theorem dX5_init_26 : decode cX5_init 26 = .ok (.newarray .int, 2) := by decide +kernel
theorem dX5_init_28 : decode cX5_init 28 = .ok (.putfield 21, 3) := by decide +kernel
theorem dX5_init_31 : decode cX5_init 31 = .ok (.aload_n 0, 1) := by decide +kernel
theorem dX5_init_32 : decode cX5_init 32 = .ok (.sipush 250, 3) := by decide +kernel
theorem dX5_init_35 : decode cX5_init 35 = .ok (.newarray .int, 2) := by decide +kernel
theorem dX5_init_37 : decode cX5_init 37 = .ok (.putfield 24, 3) := by decide +kernel
theorem dX5_init_40 : decode cX5_init 40 = .ok (.aload_n 0, 1) := by decide +kernel
theorem dX5_init_41 : decode cX5_init 41 = .ok (.sipush 500, 3) := by decide +kernel
theorem dX5_init_44 : decode cX5_init 44 = .ok (.newarray .int, 2) := by decide +kernel
theorem dX5_init_46 : decode cX5_init 46 = .ok (.putfield 27, 3) := by decide +kernel
theorem dX5_init_49 : decode cX5_init 49 = .ok (.aload_n 0, 1) := by decide +kernel
theorem dX5_init_50 : decode cX5_init 50 = .ok (.bipush 10, 2) := by decide +kernel
theorem dX5_init_52 : decode cX5_init 52 = .ok (.newarray .int, 2) := by decide +kernel
theorem dX5_init_54 : decode cX5_init 54 = .ok (.putfield 30, 3) := by decide +kernel
theorem dX5_init_57 : decode cX5_init 57 = .ok (.aload_n 0, 1) := by decide +kernel
theorem dX5_init_58 : decode cX5_init 58 = .ok (.sipush 500, 3) := by decide +kernel
theorem dX5_init_61 : decode cX5_init 61 = .ok (.newarray .boolean, 2) := by decide +kernel
theorem dX5_init_63 : decode cX5_init 63 = .ok (.putfield 33, 3) := by decide +kernel
theorem dX5_init_66 : decode cX5_init 66 = .ok (.aload_n 0, 1) := by decide +kernel
theorem dX5_init_67 : decode cX5_init 67 = .ok (.sipush 1646, 3) := by decide +kernel
theorem dX5_init_70 : decode cX5_init 70 = .ok (.newarray .int, 2) := by decide +kernel
theorem dX5_init_72 : decode cX5_init 72 = .ok (.putfield 37, 3) := by decide +kernel
theorem dX5_init_75 : decode cX5_init 75 = .ok (.aload_n 0, 1) := by decide +kernel
theorem dX5_init_76 : decode cX5_init 76 = .ok (.iconst 4, 1) := by decide +kernel
theorem dX5_init_77 : decode cX5_init 77 = .ok (.newarray .int, 2) := by decide +kernel
theorem dX5_init_79 : decode cX5_init 79 = .ok (.putfield 40, 3) := by decide +kernel
theorem dX5_init_82 : decode cX5_init 82 = .ok (.aload_n 0, 1) := by decide +kernel
theorem dX5_init_83 : decode cX5_init 83 = .ok (.iconst 4, 1) := by decide +kernel
theorem dX5_init_84 : decode cX5_init 84 = .ok (.newarray .int, 2) := by decide +kernel
theorem dX5_init_86 : decode cX5_init 86 = .ok (.putfield 43, 3) := by decide +kernel
theorem dX5_init_89 : decode cX5_init 89 = .ok (.aload_n 0, 1) := by decide +kernel
theorem dX5_init_90 : decode cX5_init 90 = .ok (.iconst 4, 1) := by decide +kernel
theorem dX5_init_91 : decode cX5_init 91 = .ok (.newarray .int, 2) := by decide +kernel
theorem dX5_init_93 : decode cX5_init 93 = .ok (.putfield 46, 3) := by decide +kernel
theorem dX5_init_96 : decode cX5_init 96 = .ok (.aload_n 0, 1) := by decide +kernel
theorem dX5_init_97 : decode cX5_init 97 = .ok (.iconst 4, 1) := by decide +kernel
theorem dX5_init_98 : decode cX5_init 98 = .ok (.newarray .boolean, 2) := by decide +kernel
theorem dX5_init_100 : decode cX5_init 100 = .ok (.putfield 49, 3) := by decide +kernel
theorem dX5_init_103 : decode cX5_init 103 = .ok (.aload_n 0, 1) := by decide +kernel
theorem dX5_init_104 : decode cX5_init 104 = .ok (.sipush 150, 3) := by decide +kernel
theorem dX5_init_107 : decode cX5_init 107 = .ok (.newarray .int, 2) := by decide +kernel
theorem dX5_init_109 : decode cX5_init 109 = .ok (.putfield 52, 3) := by decide +kernel
theorem dX5_init_112 : decode cX5_init 112 = .ok (.aload_n 0, 1) := by decide +kernel
theorem dX5_init_113 : decode cX5_init 113 = .ok (.sipush 300, 3) := by decide +kernel
theorem dX5_init_116 : decode cX5_init 116 = .ok (.newarray .int, 2) := by decide +kernel
theorem dX5_init_118 : decode cX5_init 118 = .ok (.putfield 55, 3) := by decide +kernel
theorem dX5_init_121 : decode cX5_init 121 = .ok (.aload_n 0, 1) := by decide +kernel
theorem dX5_init_122 : decode cX5_init 122 = .ok (.sipush 300, 3) := by decide +kernel
theorem dX5_init_125 : decode cX5_init 125 = .ok (.newarray .int, 2) := by decide +kernel
theorem dX5_init_127 : decode cX5_init 127 = .ok (.putfield 58, 3) := by decide +kernel
theorem dX5_init_130 : decode cX5_init 130 = .ok (.aload_n 0, 1) := by decide +kernel
theorem dX5_init_131 : decode cX5_init 131 = .ok (.sipush 300, 3) := by decide +kernel
theorem dX5_init_134 : decode cX5_init 134 = .ok (.newarray .int, 2) := by decide +kernel
theorem dX5_init_136 : decode cX5_init 136 = .ok (.putfield 61, 3) := by decide +kernel
theorem dX5_init_139 : decode cX5_init 139 = .ok (.aload_n 0, 1) := by decide +kernel
theorem dX5_init_140 : decode cX5_init 140 = .ok (.sipush 1400, 3) := by decide +kernel
theorem dX5_init_143 : decode cX5_init 143 = .ok (.newarray .int, 2) := by decide +kernel
theorem dX5_init_145 : decode cX5_init 145 = .ok (.putfield 64, 3) := by decide +kernel
theorem dX5_init_148 : decode cX5_init 148 = .ok (.aload_n 0, 1) := by decide +kernel
theorem dX5_init_149 : decode cX5_init 149 = .ok (.sipush 1000, 3) := by decide +kernel
theorem dX5_init_152 : decode cX5_init 152 = .ok (.newarray .int, 2) := by decide +kernel
theorem dX5_init_154 : decode cX5_init 154 = .ok (.putfield 67, 3) := by decide +kernel
theorem dX5_init_157 : decode cX5_init 157 = .ok (.aload_n 0, 1) := by decide +kernel
theorem dX5_init_158 : decode cX5_init 158 = .ok (.sipush 1400, 3) := by decide +kernel
theorem dX5_init_161 : decode cX5_init 161 = .ok (.newarray .int, 2) := by decide +kernel
theorem dX5_init_163 : decode cX5_init 163 = .ok (.putfield 70, 3) := by decide +kernel
theorem dX5_init_166 : decode cX5_init 166 = .ok (.aload_n 0, 1) := by decide +kernel
theorem dX5_init_167 : decode cX5_init 167 = .ok (.sipush 19752, 3) := by decide +kernel
theorem dX5_init_170 : decode cX5_init 170 = .ok (.newarray .int, 2) := by decide +kernel
theorem dX5_init_172 : decode cX5_init 172 = .ok (.putfield 73, 3) := by decide +kernel
theorem dX5_init_175 : decode cX5_init 175 = .ok (.aload_n 0, 1) := by decide +kernel
theorem dX5_init_176 : decode cX5_init 176 = .ok (.sipush 1646, 3) := by decide +kernel
theorem dX5_init_179 : decode cX5_init 179 = .ok (.newarray .int, 2) := by decide +kernel
theorem dX5_init_181 : decode cX5_init 181 = .ok (.putfield 76, 3) := by decide +kernel
theorem dX5_init_184 : decode cX5_init 184 = .ok (.aload_n 0, 1) := by decide +kernel
theorem dX5_init_185 : decode cX5_init 185 = .ok (.iconst 2, 1) := by decide +kernel
theorem dX5_init_186 : decode cX5_init 186 = .ok (.newarray .boolean, 2) := by decide +kernel
theorem dX5_init_188 : decode cX5_init 188 = .ok (.putfield 79, 3) := by decide +kernel
theorem dX5_init_191 : decode cX5_init 191 = .ok (.aload_n 0, 1) := by decide +kernel
theorem dX5_init_192 : decode cX5_init 192 = .ok (.sipush 3292, 3) := by decide +kernel
theorem dX5_init_195 : decode cX5_init 195 = .ok (.newarray .int, 2) := by decide +kernel
theorem dX5_init_197 : decode cX5_init 197 = .ok (.putfield 82, 3) := by decide +kernel
theorem dX5_init_200 : decode cX5_init 200 = .ok (.aload_n 0, 1) := by decide +kernel
theorem dX5_init_201 : decode cX5_init 201 = .ok (.sipush 200, 3) := by decide +kernel
theorem dX5_init_204 : decode cX5_init 204 = .ok (.invokevirtual 85, 3) := by decide +kernel
theorem dX5_init_207 : decode cX5_init 207 = .ok (.return_, 1) := by decide +kernel
set_option maxRecDepth 20000 in
theorem ggX5_isNode_X5_within : GoodIn wsX5_isNode wsX5_within := goodIn_r _ [5] (by decide +kernel) (by decide +kernel)
set_option maxRecDepth 20000 in
theorem gX5_isNode_X5_within : GoodIn wsX5_isNode (va_wsS RX5 89 yX5_within wsX5_within) := goodIn_app (goodIn_of _ (by decide +kernel)) ggX5_isNode_X5_within
theorem dX5_isNode_0 : decode cX5_isNode 0 = .ok (.iload_n 1, 1) := by decide +kernel
theorem dX5_isNode_1 : decode cX5_isNode 1 = .ok (.iconst 0, 1) := by decide +kernel
theorem dX5_isNode_2 : decode cX5_isNode 2 = .ok (.sipush 299, 3) := by decide +kernel
theorem dX5_isNode_5 : decode cX5_isNode 5 = .ok (.invokestatic 89, 3) := by decide +kernel
theorem dX5_isNode_8 : decode cX5_isNode 8 = .ok (.ifCond .eq 19, 3) := by decide +kernel
theorem dX5_isNode_11 : decode cX5_isNode 11 = .ok (.aload_n 0, 1) := by decide +kernel
theorem dX5_isNode_12 : decode cX5_isNode 12 = .ok (.getfield 7, 3) := by decide +kernel
theorem dX5_isNode_15 : decode cX5_isNode 15 = .ok (.bipush 30, 2) := by decide +kernel
theorem dX5_isNode_17 : decode cX5_isNode 17 = .ok (.iload_n 1, 1) := by decide +kernel
theorem dX5_isNode_18 : decode cX5_isNode 18 = .ok (.iadd, 1) := by decide +kernel
theorem dX5_isNode_19 : decode cX5_isNode 19 = .ok (.iaload, 1) := by decide +kernel
theorem dX5_isNode_20 : decode cX5_isNode 20 = .ok (.ifCond .le 7, 3) := by decide +kernel
theorem dX5_isNode_23 : decode cX5_isNode 23 = .ok (.iconst 1, 1) := by decide +kernel
theorem dX5_isNode_24 : decode cX5_isNode 24 = .ok (.goto 4, 3) := by decide +kernel
theorem dX5_isNode_27 : decode cX5_isNode 27 = .ok (.iconst 0, 1) := by decide +kernel
theorem dX5_isNode_28 : decode cX5_isNode 28 = .ok (.ireturn, 1) := by decide +kernel
theorem dX5_kindOf_0 : decode cX5_kindOf 0 = .ok (.aload_n 0, 1) := by decide +kernel
theorem dX5_kindOf_1 : decode cX5_kindOf 1 = .ok (.getfield 7, 3) := by decide +kernel
theorem dX5_kindOf_4 : decode cX5_kindOf 4 = .ok (.bipush 30, 2) := by decide +kernel
theorem dX5_kindOf_6 : decode cX5_kindOf 6 = .ok (.iload_n 1, 1) := by decide +kernel
theorem dX5_kindOf_7 : decode cX5_kindOf 7 = .ok (.iadd, 1) := by decide +kernel
theorem dX5_kindOf_8 : decode cX5_kindOf 8 = .ok (.iaload, 1) := by decide +kernel
theorem dX5_kindOf_9 : decode cX5_kindOf 9 = .ok (.iconst 1, 1) := by decide +kernel
theorem dX5_kindOf_10 : decode cX5_kindOf 10 = .ok (.isub, 1) := by decide +kernel
theorem dX5_kindOf_11 : decode cX5_kindOf 11 = .ok (.ireturn, 1) := by decide +kernel
theorem dX5_linkOf_0 : decode cX5_linkOf 0 = .ok (.aload_n 0, 1) := by decide +kernel
theorem dX5_linkOf_1 : decode cX5_linkOf 1 = .ok (.getfield 7, 3) := by decide +kernel
theorem dX5_linkOf_4 : decode cX5_linkOf 4 = .ok (.sipush 630, 3) := by decide +kernel
theorem dX5_linkOf_7 : decode cX5_linkOf 7 = .ok (.iload_n 1, 1) := by decide +kernel
theorem dX5_linkOf_8 : decode cX5_linkOf 8 = .ok (.iadd, 1) := by decide +kernel
theorem dX5_linkOf_9 : decode cX5_linkOf 9 = .ok (.iaload, 1) := by decide +kernel
theorem dX5_linkOf_10 : decode cX5_linkOf 10 = .ok (.ireturn, 1) := by decide +kernel
theorem dX5_links_0 : decode cX5_links 0 = .ok (.aload_n 0, 1) := by decide +kernel
theorem dX5_links_1 : decode cX5_links 1 = .ok (.getfield 7, 3) := by decide +kernel
theorem dX5_links_4 : decode cX5_links 4 = .ok (.sipush 630, 3) := by decide +kernel
theorem dX5_links_7 : decode cX5_links 7 = .ok (.iload_n 1, 1) := by decide +kernel
theorem dX5_links_8 : decode cX5_links 8 = .ok (.iadd, 1) := by decide +kernel
theorem dX5_links_9 : decode cX5_links 9 = .ok (.iload_n 2, 1) := by decide +kernel
theorem dX5_links_10 : decode cX5_links 10 = .ok (.iastore, 1) := by decide +kernel
theorem dX5_links_11 : decode cX5_links 11 = .ok (.aload_n 0, 1) := by decide +kernel
theorem dX5_links_12 : decode cX5_links 12 = .ok (.getfield 7, 3) := by decide +kernel
theorem dX5_links_15 : decode cX5_links 15 = .ok (.sipush 630, 3) := by decide +kernel
theorem dX5_links_18 : decode cX5_links 18 = .ok (.iload_n 2, 1) := by decide +kernel
theorem dX5_links_19 : decode cX5_links 19 = .ok (.iadd, 1) := by decide +kernel
theorem dX5_links_20 : decode cX5_links 20 = .ok (.iload_n 1, 1) := by decide +kernel
theorem dX5_links_21 : decode cX5_links 21 = .ok (.iastore, 1) := by decide +kernel
theorem dX5_links_22 : decode cX5_links 22 = .ok (.return_, 1) := by decide +kernel
theorem dX5_makes_0 : decode cX5_makes 0 = .ok (.aload_n 0, 1) := by decide +kernel
theorem dX5_makes_1 : decode cX5_makes 1 = .ok (.getfield 7, 3) := by decide +kernel
theorem dX5_makes_4 : decode cX5_makes 4 = .ok (.iconst 5, 1) := by decide +kernel
theorem dX5_makes_5 : decode cX5_makes 5 = .ok (.iaload, 1) := by decide +kernel
theorem dX5_makes_6 : decode cX5_makes 6 = .ok (.ifCond .le 32, 3) := by decide +kernel
theorem dX5_makes_9 : decode cX5_makes 9 = .ok (.aload_n 0, 1) := by decide +kernel
theorem dX5_makes_10 : decode cX5_makes 10 = .ok (.getfield 7, 3) := by decide +kernel
theorem dX5_makes_13 : decode cX5_makes 13 = .ok (.iconst 5, 1) := by decide +kernel
theorem dX5_makes_14 : decode cX5_makes 14 = .ok (.dup2, 1) := by decide +kernel
theorem dX5_makes_15 : decode cX5_makes 15 = .ok (.iaload, 1) := by decide +kernel
theorem dX5_makes_16 : decode cX5_makes 16 = .ok (.iconst 1, 1) := by decide +kernel
theorem dX5_makes_17 : decode cX5_makes 17 = .ok (.isub, 1) := by decide +kernel
theorem dX5_makes_18 : decode cX5_makes 18 = .ok (.iastore, 1) := by decide +kernel
theorem dX5_makes_19 : decode cX5_makes 19 = .ok (.aload_n 0, 1) := by decide +kernel
theorem dX5_makes_20 : decode cX5_makes 20 = .ok (.getfield 7, 3) := by decide +kernel
theorem dX5_makes_23 : decode cX5_makes 23 = .ok (.sipush 330, 3) := by decide +kernel
theorem dX5_makes_26 : decode cX5_makes 26 = .ok (.aload_n 0, 1) := by decide +kernel
theorem dX5_makes_27 : decode cX5_makes 27 = .ok (.getfield 7, 3) := by decide +kernel
theorem dX5_makes_30 : decode cX5_makes 30 = .ok (.iconst 5, 1) := by decide +kernel
theorem dX5_makes_31 : decode cX5_makes 31 = .ok (.iaload, 1) := by decide +kernel
theorem dX5_makes_32 : decode cX5_makes 32 = .ok (.iadd, 1) := by decide +kernel
theorem dX5_makes_33 : decode cX5_makes 33 = .ok (.iaload, 1) := by decide +kernel
theorem dX5_makes_34 : decode cX5_makes 34 = .ok (.istore_n 2, 1) := by decide +kernel
theorem dX5_makes_35 : decode cX5_makes 35 = .ok (.goto 20, 3) := by decide +kernel
theorem dX5_makes_38 : decode cX5_makes 38 = .ok (.aload_n 0, 1) := by decide +kernel
theorem dX5_makes_39 : decode cX5_makes 39 = .ok (.getfield 7, 3) := by decide +kernel
theorem dX5_makes_42 : decode cX5_makes 42 = .ok (.iconst 4, 1) := by decide +kernel
theorem dX5_makes_43 : decode cX5_makes 43 = .ok (.iaload, 1) := by decide +kernel
theorem dX5_makes_44 : decode cX5_makes 44 = .ok (.istore_n 2, 1) := by decide +kernel
theorem dX5_makes_45 : decode cX5_makes 45 = .ok (.aload_n 0, 1) := by decide +kernel
theorem dX5_makes_46 : decode cX5_makes 46 = .ok (.getfield 7, 3) := by decide +kernel
theorem dX5_makes_49 : decode cX5_makes 49 = .ok (.iconst 4, 1) := by decide +kernel
theorem dX5_makes_50 : decode cX5_makes 50 = .ok (.dup2, 1) := by decide +kernel
theorem dX5_makes_51 : decode cX5_makes 51 = .ok (.iaload, 1) := by decide +kernel
theorem dX5_makes_52 : decode cX5_makes 52 = .ok (.iconst 1, 1) := by decide +kernel
theorem dX5_makes_53 : decode cX5_makes 53 = .ok (.iadd, 1) := by decide +kernel
theorem dX5_makes_54 : decode cX5_makes 54 = .ok (.iastore, 1) := by decide +kernel
theorem dX5_makes_55 : decode cX5_makes 55 = .ok (.aload_n 0, 1) := by decide +kernel
theorem dX5_makes_56 : decode cX5_makes 56 = .ok (.getfield 7, 3) := by decide +kernel
theorem dX5_makes_59 : decode cX5_makes 59 = .ok (.bipush 30, 2) := by decide +kernel
theorem dX5_makes_61 : decode cX5_makes 61 = .ok (.iload_n 2, 1) := by decide +kernel
theorem dX5_makes_62 : decode cX5_makes 62 = .ok (.iadd, 1) := by decide +kernel
theorem dX5_makes_63 : decode cX5_makes 63 = .ok (.iload_n 1, 1) := by decide +kernel
theorem dX5_makes_64 : decode cX5_makes 64 = .ok (.iconst 1, 1) := by decide +kernel
theorem dX5_makes_65 : decode cX5_makes 65 = .ok (.iadd, 1) := by decide +kernel
theorem dX5_makes_66 : decode cX5_makes 66 = .ok (.iastore, 1) := by decide +kernel
theorem dX5_makes_67 : decode cX5_makes 67 = .ok (.aload_n 0, 1) := by decide +kernel
theorem dX5_makes_68 : decode cX5_makes 68 = .ok (.getfield 7, 3) := by decide +kernel
theorem dX5_makes_71 : decode cX5_makes 71 = .ok (.iconst 1, 1) := by decide +kernel
theorem dX5_makes_72 : decode cX5_makes 72 = .ok (.dup2, 1) := by decide +kernel
theorem dX5_makes_73 : decode cX5_makes 73 = .ok (.iaload, 1) := by decide +kernel
theorem dX5_makes_74 : decode cX5_makes 74 = .ok (.iconst 1, 1) := by decide +kernel
theorem dX5_makes_75 : decode cX5_makes 75 = .ok (.iadd, 1) := by decide +kernel
theorem dX5_makes_76 : decode cX5_makes 76 = .ok (.iastore, 1) := by decide +kernel
theorem dX5_makes_77 : decode cX5_makes 77 = .ok (.aload_n 0, 1) := by decide +kernel
theorem dX5_makes_78 : decode cX5_makes 78 = .ok (.getfield 7, 3) := by decide +kernel
theorem dX5_makes_81 : decode cX5_makes 81 = .ok (.iconst 2, 1) := by decide +kernel
theorem dX5_makes_82 : decode cX5_makes 82 = .ok (.dup2, 1) := by decide +kernel
theorem dX5_makes_83 : decode cX5_makes 83 = .ok (.iaload, 1) := by decide +kernel
theorem dX5_makes_84 : decode cX5_makes 84 = .ok (.iconst 1, 1) := by decide +kernel
theorem dX5_makes_85 : decode cX5_makes 85 = .ok (.iadd, 1) := by decide +kernel
theorem dX5_makes_86 : decode cX5_makes 86 = .ok (.iastore, 1) := by decide +kernel
theorem dX5_makes_87 : decode cX5_makes 87 = .ok (.iload_n 2, 1) := by decide +kernel
theorem dX5_makes_88 : decode cX5_makes 88 = .ok (.ireturn, 1) := by decide +kernel
theorem dX5_frees_0 : decode cX5_frees 0 = .ok (.aload_n 0, 1) := by decide +kernel
theorem dX5_frees_1 : decode cX5_frees 1 = .ok (.getfield 7, 3) := by decide +kernel
theorem dX5_frees_4 : decode cX5_frees 4 = .ok (.bipush 30, 2) := by decide +kernel
theorem dX5_frees_6 : decode cX5_frees 6 = .ok (.iload_n 1, 1) := by decide +kernel
theorem dX5_frees_7 : decode cX5_frees 7 = .ok (.iadd, 1) := by decide +kernel
theorem dX5_frees_8 : decode cX5_frees 8 = .ok (.iconst 0, 1) := by decide +kernel
theorem dX5_frees_9 : decode cX5_frees 9 = .ok (.iastore, 1) := by decide +kernel
theorem dX5_frees_10 : decode cX5_frees 10 = .ok (.aload_n 0, 1) := by decide +kernel
theorem dX5_frees_11 : decode cX5_frees 11 = .ok (.getfield 7, 3) := by decide +kernel
theorem dX5_frees_14 : decode cX5_frees 14 = .ok (.sipush 330, 3) := by decide +kernel
theorem dX5_frees_17 : decode cX5_frees 17 = .ok (.aload_n 0, 1) := by decide +kernel
theorem dX5_frees_18 : decode cX5_frees 18 = .ok (.getfield 7, 3) := by decide +kernel
theorem dX5_frees_21 : decode cX5_frees 21 = .ok (.iconst 5, 1) := by decide +kernel
theorem dX5_frees_22 : decode cX5_frees 22 = .ok (.iaload, 1) := by decide +kernel
theorem dX5_frees_23 : decode cX5_frees 23 = .ok (.iadd, 1) := by decide +kernel
theorem dX5_frees_24 : decode cX5_frees 24 = .ok (.iload_n 1, 1) := by decide +kernel
theorem dX5_frees_25 : decode cX5_frees 25 = .ok (.iastore, 1) := by decide +kernel
theorem dX5_frees_26 : decode cX5_frees 26 = .ok (.aload_n 0, 1) := by decide +kernel
theorem dX5_frees_27 : decode cX5_frees 27 = .ok (.getfield 7, 3) := by decide +kernel
theorem dX5_frees_30 : decode cX5_frees 30 = .ok (.iconst 5, 1) := by decide +kernel
theorem dX5_frees_31 : decode cX5_frees 31 = .ok (.dup2, 1) := by decide +kernel
theorem dX5_frees_32 : decode cX5_frees 32 = .ok (.iaload, 1) := by decide +kernel
theorem dX5_frees_33 : decode cX5_frees 33 = .ok (.iconst 1, 1) := by decide +kernel
theorem dX5_frees_34 : decode cX5_frees 34 = .ok (.iadd, 1) := by decide +kernel
theorem dX5_frees_35 : decode cX5_frees 35 = .ok (.iastore, 1) := by decide +kernel
theorem dX5_frees_36 : decode cX5_frees 36 = .ok (.aload_n 0, 1) := by decide +kernel
theorem dX5_frees_37 : decode cX5_frees 37 = .ok (.getfield 7, 3) := by decide +kernel
theorem dX5_frees_40 : decode cX5_frees 40 = .ok (.iconst 1, 1) := by decide +kernel
theorem dX5_frees_41 : decode cX5_frees 41 = .ok (.dup2, 1) := by decide +kernel
theorem dX5_frees_42 : decode cX5_frees 42 = .ok (.iaload, 1) := by decide +kernel
theorem dX5_frees_43 : decode cX5_frees 43 = .ok (.iconst 1, 1) := by decide +kernel
theorem dX5_frees_44 : decode cX5_frees 44 = .ok (.isub, 1) := by decide +kernel
theorem dX5_frees_45 : decode cX5_frees 45 = .ok (.iastore, 1) := by decide +kernel
theorem dX5_frees_46 : decode cX5_frees 46 = .ok (.aload_n 0, 1) := by decide +kernel
theorem dX5_frees_47 : decode cX5_frees 47 = .ok (.getfield 7, 3) := by decide +kernel
theorem dX5_frees_50 : decode cX5_frees 50 = .ok (.iconst 3, 1) := by decide +kernel
theorem dX5_frees_51 : decode cX5_frees 51 = .ok (.dup2, 1) := by decide +kernel
theorem dX5_frees_52 : decode cX5_frees 52 = .ok (.iaload, 1) := by decide +kernel
theorem dX5_frees_53 : decode cX5_frees 53 = .ok (.iconst 1, 1) := by decide +kernel
theorem dX5_frees_54 : decode cX5_frees 54 = .ok (.iadd, 1) := by decide +kernel
theorem dX5_frees_55 : decode cX5_frees 55 = .ok (.iastore, 1) := by decide +kernel
theorem dX5_frees_56 : decode cX5_frees 56 = .ok (.return_, 1) := by decide +kernel
theorem dX5_hasRoom_0 : decode cX5_hasRoom 0 = .ok (.aload_n 0, 1) := by decide +kernel
theorem dX5_hasRoom_1 : decode cX5_hasRoom 1 = .ok (.getfield 7, 3) := by decide +kernel
theorem dX5_hasRoom_4 : decode cX5_hasRoom 4 = .ok (.iconst 1, 1) := by decide +kernel
theorem dX5_hasRoom_5 : decode cX5_hasRoom 5 = .ok (.iaload, 1) := by decide +kernel
theorem dX5_hasRoom_6 : decode cX5_hasRoom 6 = .ok (.iload_n 1, 1) := by decide +kernel
theorem dX5_hasRoom_7 : decode cX5_hasRoom 7 = .ok (.iadd, 1) := by decide +kernel
theorem dX5_hasRoom_8 : decode cX5_hasRoom 8 = .ok (.aload_n 0, 1) := by decide +kernel
theorem dX5_hasRoom_9 : decode cX5_hasRoom 9 = .ok (.getfield 7, 3) := by decide +kernel
theorem dX5_hasRoom_12 : decode cX5_hasRoom 12 = .ok (.iconst 0, 1) := by decide +kernel
theorem dX5_hasRoom_13 : decode cX5_hasRoom 13 = .ok (.iaload, 1) := by decide +kernel
theorem dX5_hasRoom_14 : decode cX5_hasRoom 14 = .ok (.if_icmp .gt 7, 3) := by decide +kernel
theorem dX5_hasRoom_17 : decode cX5_hasRoom 17 = .ok (.iconst 1, 1) := by decide +kernel
theorem dX5_hasRoom_18 : decode cX5_hasRoom 18 = .ok (.goto 4, 3) := by decide +kernel
theorem dX5_hasRoom_21 : decode cX5_hasRoom 21 = .ok (.iconst 0, 1) := by decide +kernel
theorem dX5_hasRoom_22 : decode cX5_hasRoom 22 = .ok (.ireturn, 1) := by decide +kernel
set_option maxRecDepth 20000 in
theorem ggX5_feed_X5_puts : GoodIn wsX5_feed wsX5_puts := goodIn_r _ [7, 8, 2, 9, 10, 11, 12, 13, 14, 15, 16, 17, 18, 19, 20, 21, 22, 23, 24, 25, 26, 27, 28, 29, 30, 31, 32, 33, 34, 35, 36, 37, 38, 39, 40, 41, 42, 43, 44, 45, 46, 47, 48, 49, 50] (by decide +kernel) (by decide +kernel)
set_option maxRecDepth 20000 in
theorem gX5_feed_X5_puts : GoodIn wsX5_feed (wsV RX5 96 RX5 yX5_puts wsX5_puts) := goodIn_app (goodIn_of _ (by decide +kernel)) ggX5_feed_X5_puts
theorem dX5_feed_0 : decode cX5_feed 0 = .ok (.aload_n 0, 1) := by decide +kernel
theorem dX5_feed_1 : decode cX5_feed 1 = .ok (.iconst 0, 1) := by decide +kernel
theorem dX5_feed_2 : decode cX5_feed 2 = .ok (.putfield 1, 3) := by decide +kernel
theorem dX5_feed_5 : decode cX5_feed 5 = .ok (.aload_n 0, 1) := by decide +kernel
theorem dX5_feed_6 : decode cX5_feed 6 = .ok (.getfield 93, 3) := by decide +kernel
theorem dX5_feed_9 : decode cX5_feed 9 = .ok (.bipush 20, 2) := by decide +kernel
theorem dX5_feed_11 : decode cX5_feed 11 = .ok (.iadd, 1) := by decide +kernel
theorem dX5_feed_12 : decode cX5_feed 12 = .ok (.sipush 500, 3) := by decide +kernel
theorem dX5_feed_15 : decode cX5_feed 15 = .ok (.if_icmp .le 5, 3) := by decide +kernel
theorem dX5_feed_18 : decode cX5_feed 18 = .ok (.iconst (-1), 1) := by decide +kernel
theorem dX5_feed_19 : decode cX5_feed 19 = .ok (.ireturn, 1) := by decide +kernel
theorem dX5_feed_20 : decode cX5_feed 20 = .ok (.aload_n 0, 1) := by decide +kernel
theorem dX5_feed_21 : decode cX5_feed 21 = .ok (.iload_n 1, 1) := by decide +kernel
theorem dX5_feed_22 : decode cX5_feed 22 = .ok (.invokevirtual 96, 3) := by decide +kernel
theorem dX5_feed_25 : decode cX5_feed 25 = .ok (.aload_n 0, 1) := by decide +kernel
theorem dX5_feed_26 : decode cX5_feed 26 = .ok (.iload_n 2, 1) := by decide +kernel
theorem dX5_feed_27 : decode cX5_feed 27 = .ok (.invokevirtual 96, 3) := by decide +kernel
theorem dX5_feed_30 : decode cX5_feed 30 = .ok (.aload_n 0, 1) := by decide +kernel
theorem dX5_feed_31 : decode cX5_feed 31 = .ok (.iload_n 3, 1) := by decide +kernel
theorem dX5_feed_32 : decode cX5_feed 32 = .ok (.invokevirtual 96, 3) := by decide +kernel
theorem dX5_feed_35 : decode cX5_feed 35 = .ok (.aload_n 0, 1) := by decide +kernel
theorem dX5_feed_36 : decode cX5_feed 36 = .ok (.iload 4, 2) := by decide +kernel
theorem dX5_feed_38 : decode cX5_feed 38 = .ok (.invokevirtual 96, 3) := by decide +kernel
theorem dX5_feed_41 : decode cX5_feed 41 = .ok (.aload_n 0, 1) := by decide +kernel
theorem dX5_feed_42 : decode cX5_feed 42 = .ok (.iload 5, 2) := by decide +kernel
theorem dX5_feed_44 : decode cX5_feed 44 = .ok (.invokevirtual 96, 3) := by decide +kernel
theorem dX5_feed_47 : decode cX5_feed 47 = .ok (.aload_n 0, 1) := by decide +kernel
theorem dX5_feed_48 : decode cX5_feed 48 = .ok (.getfield 93, 3) := by decide +kernel
theorem dX5_feed_51 : decode cX5_feed 51 = .ok (.ireturn, 1) := by decide +kernel
theorem dX5_puts_0 : decode cX5_puts 0 = .ok (.bipush 24, 2) := by decide +kernel
theorem dX5_puts_2 : decode cX5_puts 2 = .ok (.istore_n 2, 1) := by decide +kernel
theorem dX5_puts_3 : decode cX5_puts 3 = .ok (.iload_n 2, 1) := by decide +kernel
theorem dX5_puts_4 : decode cX5_puts 4 = .ok (.ifCond .lt 32, 3) := by decide +kernel
theorem dX5_puts_7 : decode cX5_puts 7 = .ok (.aload_n 0, 1) := by decide +kernel
theorem dX5_puts_8 : decode cX5_puts 8 = .ok (.getfield 17, 3) := by decide +kernel
theorem dX5_puts_11 : decode cX5_puts 11 = .ok (.aload_n 0, 1) := by decide +kernel
theorem dX5_puts_12 : decode cX5_puts 12 = .ok (.getfield 93, 3) := by decide +kernel
theorem dX5_puts_15 : decode cX5_puts 15 = .ok (.iload_n 1, 1) := by decide +kernel
theorem dX5_puts_16 : decode cX5_puts 16 = .ok (.iload_n 2, 1) := by decide +kernel
theorem dX5_puts_17 : decode cX5_puts 17 = .ok (.ishr, 1) := by decide +kernel
theorem dX5_puts_18 : decode cX5_puts 18 = .ok (.i2b, 1) := by decide +kernel
theorem dX5_puts_19 : decode cX5_puts 19 = .ok (.bastore, 1) := by decide +kernel
theorem dX5_puts_20 : decode cX5_puts 20 = .ok (.aload_n 0, 1) := by decide +kernel
theorem dX5_puts_21 : decode cX5_puts 21 = .ok (.dup, 1) := by decide +kernel
theorem dX5_puts_22 : decode cX5_puts 22 = .ok (.getfield 93, 3) := by decide +kernel
theorem dX5_puts_25 : decode cX5_puts 25 = .ok (.iconst 1, 1) := by decide +kernel
theorem dX5_puts_26 : decode cX5_puts 26 = .ok (.iadd, 1) := by decide +kernel
theorem dX5_puts_27 : decode cX5_puts 27 = .ok (.putfield 93, 3) := by decide +kernel
theorem dX5_puts_30 : decode cX5_puts 30 = .ok (.iinc 2 (-8), 3) := by decide +kernel
theorem dX5_puts_33 : decode cX5_puts 33 = .ok (.goto (-30), 3) := by decide +kernel
theorem dX5_puts_36 : decode cX5_puts 36 = .ok (.return_, 1) := by decide +kernel
theorem dX5_byteAt_0 : decode cX5_byteAt 0 = .ok (.iload_n 1, 1) := by decide +kernel
theorem dX5_byteAt_1 : decode cX5_byteAt 1 = .ok (.aload_n 0, 1) := by decide +kernel
theorem dX5_byteAt_2 : decode cX5_byteAt 2 = .ok (.getfield 99, 3) := by decide +kernel
theorem dX5_byteAt_5 : decode cX5_byteAt 5 = .ok (.if_icmp .ge 16, 3) := by decide +kernel
theorem dX5_byteAt_8 : decode cX5_byteAt 8 = .ok (.aload_n 0, 1) := by decide +kernel
theorem dX5_byteAt_9 : decode cX5_byteAt 9 = .ok (.getfield 17, 3) := by decide +kernel
theorem dX5_byteAt_12 : decode cX5_byteAt 12 = .ok (.iload_n 1, 1) := by decide +kernel
theorem dX5_byteAt_13 : decode cX5_byteAt 13 = .ok (.baload, 1) := by decide +kernel
theorem dX5_byteAt_14 : decode cX5_byteAt 14 = .ok (.sipush 255, 3) := by decide +kernel
theorem dX5_byteAt_17 : decode cX5_byteAt 17 = .ok (.iand, 1) := by decide +kernel
theorem dX5_byteAt_18 : decode cX5_byteAt 18 = .ok (.goto 4, 3) := by decide +kernel
theorem dX5_byteAt_21 : decode cX5_byteAt 21 = .ok (.iconst (-1), 1) := by decide +kernel
theorem dX5_byteAt_22 : decode cX5_byteAt 22 = .ok (.ireturn, 1) := by decide +kernel
theorem dX5_isSign_0 : decode cX5_isSign 0 = .ok (.iload_n 0, 1) := by decide +kernel
theorem dX5_isSign_1 : decode cX5_isSign 1 = .ok (.bipush 59, 2) := by decide +kernel
theorem dX5_isSign_3 : decode cX5_isSign 3 = .ok (.if_icmp .eq 57, 3) := by decide +kernel
theorem dX5_isSign_6 : decode cX5_isSign 6 = .ok (.iload_n 0, 1) := by decide +kernel
theorem dX5_isSign_7 : decode cX5_isSign 7 = .ok (.bipush 126, 2) := by decide +kernel
theorem dX5_isSign_9 : decode cX5_isSign 9 = .ok (.if_icmp .eq 51, 3) := by decide +kernel
theorem dX5_isSign_12 : decode cX5_isSign 12 = .ok (.iload_n 0, 1) := by decide +kernel
theorem dX5_isSign_13 : decode cX5_isSign 13 = .ok (.bipush 42, 2) := by decide +kernel
theorem dX5_isSign_15 : decode cX5_isSign 15 = .ok (.if_icmp .eq 45, 3) := by decide +kernel
theorem dX5_isSign_18 : decode cX5_isSign 18 = .ok (.iload_n 0, 1) := by decide +kernel
theorem dX5_isSign_19 : decode cX5_isSign 19 = .ok (.bipush 35, 2) := by decide +kernel
theorem dX5_isSign_21 : decode cX5_isSign 21 = .ok (.if_icmp .eq 39, 3) := by decide +kernel
theorem dX5_isSign_24 : decode cX5_isSign 24 = .ok (.iload_n 0, 1) := by decide +kernel
theorem dX5_isSign_25 : decode cX5_isSign 25 = .ok (.bipush 40, 2) := by decide +kernel
theorem dX5_isSign_27 : decode cX5_isSign 27 = .ok (.if_icmp .eq 33, 3) := by decide +kernel
theorem dX5_isSign_30 : decode cX5_isSign 30 = .ok (.iload_n 0, 1) := by decide +kernel
theorem dX5_isSign_31 : decode cX5_isSign 31 = .ok (.bipush 41, 2) := by decide +kernel
theorem dX5_isSign_33 : decode cX5_isSign 33 = .ok (.if_icmp .eq 27, 3) := by decide +kernel
theorem dX5_isSign_36 : decode cX5_isSign 36 = .ok (.iload_n 0, 1) := by decide +kernel
theorem dX5_isSign_37 : decode cX5_isSign 37 = .ok (.bipush 91, 2) := by decide +kernel
theorem dX5_isSign_39 : decode cX5_isSign 39 = .ok (.if_icmp .eq 21, 3) := by decide +kernel
theorem dX5_isSign_42 : decode cX5_isSign 42 = .ok (.iload_n 0, 1) := by decide +kernel
theorem dX5_isSign_43 : decode cX5_isSign 43 = .ok (.bipush 93, 2) := by decide +kernel
theorem dX5_isSign_45 : decode cX5_isSign 45 = .ok (.if_icmp .eq 15, 3) := by decide +kernel
theorem dX5_isSign_48 : decode cX5_isSign 48 = .ok (.iload_n 0, 1) := by decide +kernel
theorem dX5_isSign_49 : decode cX5_isSign 49 = .ok (.bipush 60, 2) := by decide +kernel
theorem dX5_isSign_51 : decode cX5_isSign 51 = .ok (.if_icmp .eq 9, 3) := by decide +kernel
theorem dX5_isSign_54 : decode cX5_isSign 54 = .ok (.iload_n 0, 1) := by decide +kernel
theorem dX5_isSign_55 : decode cX5_isSign 55 = .ok (.bipush 62, 2) := by decide +kernel
theorem dX5_isSign_57 : decode cX5_isSign 57 = .ok (.if_icmp .ne 7, 3) := by decide +kernel
theorem dX5_isSign_60 : decode cX5_isSign 60 = .ok (.iconst 1, 1) := by decide +kernel
theorem dX5_isSign_61 : decode cX5_isSign 61 = .ok (.goto 4, 3) := by decide +kernel
theorem dX5_isSign_64 : decode cX5_isSign 64 = .ok (.iconst 0, 1) := by decide +kernel
theorem dX5_isSign_65 : decode cX5_isSign 65 = .ok (.ireturn, 1) := by decide +kernel
set_option maxRecDepth 20000 in
theorem ggX5_go_X5_byteAt : GoodIn wsX5_go wsX5_byteAt := goodIn_r _ [11, 12, 13, 20, 21, 22, 23, 24, 25, 26, 27, 28, 29, 30, 31, 32, 33, 34, 35, 36, 37, 38, 39, 40, 41, 42, 43, 44, 45, 46, 47, 48, 49, 50, 51, 52, 53, 54, 55, 56, 57, 58, 59, 60, 61] (by decide +kernel) (by decide +kernel)
set_option maxRecDepth 20000 in
theorem gX5_go_X5_byteAt : GoodIn wsX5_go (wsV RX5 105 RX5 yX5_byteAt wsX5_byteAt) := goodIn_app (goodIn_of _ (by decide +kernel)) ggX5_go_X5_byteAt
set_option maxRecDepth 20000 in
theorem ggX5_go_X5_within : GoodIn wsX5_go wsX5_within := goodIn_r _ [16] (by decide +kernel) (by decide +kernel)
set_option maxRecDepth 20000 in
theorem gX5_go_X5_within : GoodIn wsX5_go (va_wsS RX5 89 yX5_within wsX5_within) := goodIn_app (goodIn_of _ (by decide +kernel)) ggX5_go_X5_within
set_option maxRecDepth 20000 in
theorem ggX5_go_X5_isSign : GoodIn wsX5_go wsX5_isSign := goodIn_r _ [19] (by decide +kernel) (by decide +kernel)
set_option maxRecDepth 20000 in
theorem gX5_go_X5_isSign : GoodIn wsX5_go (va_wsS RX5 122 yX5_isSign wsX5_isSign) := goodIn_app (goodIn_of _ (by decide +kernel)) ggX5_go_X5_isSign
theorem dX5_go_0 : decode cX5_go 0 = .ok (.aload_n 0, 1) := by decide +kernel
theorem dX5_go_1 : decode cX5_go 1 = .ok (.aload_n 0, 1) := by decide +kernel
theorem dX5_go_2 : decode cX5_go 2 = .ok (.getfield 102, 3) := by decide +kernel
theorem dX5_go_5 : decode cX5_go 5 = .ok (.invokevirtual 105, 3) := by decide +kernel
theorem dX5_go_8 : decode cX5_go 8 = .ok (.bipush 32, 2) := by decide +kernel
theorem dX5_go_10 : decode cX5_go 10 = .ok (.if_icmp .eq 16, 3) := by decide +kernel
theorem dX5_go_13 : decode cX5_go 13 = .ok (.aload_n 0, 1) := by decide +kernel
theorem dX5_go_14 : decode cX5_go 14 = .ok (.aload_n 0, 1) := by decide +kernel
theorem dX5_go_15 : decode cX5_go 15 = .ok (.getfield 102, 3) := by decide +kernel
theorem dX5_go_18 : decode cX5_go 18 = .ok (.invokevirtual 105, 3) := by decide +kernel
theorem dX5_go_21 : decode cX5_go 21 = .ok (.bipush 10, 2) := by decide +kernel
theorem dX5_go_23 : decode cX5_go 23 = .ok (.if_icmp .ne 16, 3) := by decide +kernel
theorem dX5_go_26 : decode cX5_go 26 = .ok (.aload_n 0, 1) := by decide +kernel
theorem dX5_go_27 : decode cX5_go 27 = .ok (.dup, 1) := by decide +kernel
theorem dX5_go_28 : decode cX5_go 28 = .ok (.getfield 102, 3) := by decide +kernel
theorem dX5_go_31 : decode cX5_go 31 = .ok (.iconst 1, 1) := by decide +kernel
theorem dX5_go_32 : decode cX5_go 32 = .ok (.iadd, 1) := by decide +kernel
theorem dX5_go_33 : decode cX5_go 33 = .ok (.putfield 102, 3) := by decide +kernel
theorem dX5_go_36 : decode cX5_go 36 = .ok (.goto (-36), 3) := by decide +kernel
theorem dX5_go_39 : decode cX5_go 39 = .ok (.aload_n 0, 1) := by decide +kernel
theorem dX5_go_40 : decode cX5_go 40 = .ok (.aload_n 0, 1) := by decide +kernel
theorem dX5_go_41 : decode cX5_go 41 = .ok (.getfield 102, 3) := by decide +kernel
theorem dX5_go_44 : decode cX5_go 44 = .ok (.putfield 109, 3) := by decide +kernel
theorem dX5_go_47 : decode cX5_go 47 = .ok (.aload_n 0, 1) := by decide +kernel
theorem dX5_go_48 : decode cX5_go 48 = .ok (.iconst 0, 1) := by decide +kernel
theorem dX5_go_49 : decode cX5_go 49 = .ok (.putfield 112, 3) := by decide +kernel
theorem dX5_go_52 : decode cX5_go 52 = .ok (.aload_n 0, 1) := by decide +kernel
theorem dX5_go_53 : decode cX5_go 53 = .ok (.iconst 0, 1) := by decide +kernel
theorem dX5_go_54 : decode cX5_go 54 = .ok (.putfield 115, 3) := by decide +kernel
theorem dX5_go_57 : decode cX5_go 57 = .ok (.aload_n 0, 1) := by decide +kernel
theorem dX5_go_58 : decode cX5_go 58 = .ok (.aload_n 0, 1) := by decide +kernel
theorem dX5_go_59 : decode cX5_go 59 = .ok (.getfield 102, 3) := by decide +kernel
theorem dX5_go_62 : decode cX5_go 62 = .ok (.invokevirtual 105, 3) := by decide +kernel
theorem dX5_go_65 : decode cX5_go 65 = .ok (.istore_n 1, 1) := by decide +kernel
theorem dX5_go_66 : decode cX5_go 66 = .ok (.iload_n 1, 1) := by decide +kernel
theorem dX5_go_67 : decode cX5_go 67 = .ok (.ifCond .ge 11, 3) := by decide +kernel
theorem dX5_go_70 : decode cX5_go 70 = .ok (.aload_n 0, 1) := by decide +kernel
theorem dX5_go_71 : decode cX5_go 71 = .ok (.iconst 0, 1) := by decide +kernel
theorem dX5_go_72 : decode cX5_go 72 = .ok (.putfield 118, 3) := by decide +kernel
theorem dX5_go_75 : decode cX5_go 75 = .ok (.goto 278, 3) := by decide +kernel
theorem dX5_go_78 : decode cX5_go 78 = .ok (.iload_n 1, 1) := by decide +kernel
theorem dX5_go_79 : decode cX5_go 79 = .ok (.bipush 97, 2) := by decide +kernel
theorem dX5_go_81 : decode cX5_go 81 = .ok (.bipush 122, 2) := by decide +kernel
theorem dX5_go_83 : decode cX5_go 83 = .ok (.invokestatic 89, 3) := by decide +kernel
theorem dX5_go_86 : decode cX5_go 86 = .ok (.ifCond .eq 126, 3) := by decide +kernel
theorem dX5_go_89 : decode cX5_go 89 = .ok (.aload_n 0, 1) := by decide +kernel
theorem dX5_go_90 : decode cX5_go 90 = .ok (.aload_n 0, 1) := by decide +kernel
theorem dX5_go_91 : decode cX5_go 91 = .ok (.getfield 102, 3) := by decide +kernel
theorem dX5_go_94 : decode cX5_go 94 = .ok (.invokevirtual 105, 3) := by decide +kernel
theorem dX5_go_97 : decode cX5_go 97 = .ok (.bipush 97, 2) := by decide +kernel
theorem dX5_go_99 : decode cX5_go 99 = .ok (.bipush 122, 2) := by decide +kernel
theorem dX5_go_101 : decode cX5_go 101 = .ok (.invokestatic 89, 3) := by decide +kernel
theorem dX5_go_104 : decode cX5_go 104 = .ok (.ifCond .eq 60, 3) := by decide +kernel
theorem dX5_go_107 : decode cX5_go 107 = .ok (.aload_n 0, 1) := by decide +kernel
theorem dX5_go_108 : decode cX5_go 108 = .ok (.aload_n 0, 1) := by decide +kernel
theorem dX5_go_109 : decode cX5_go 109 = .ok (.getfield 102, 3) := by decide +kernel
theorem dX5_go_112 : decode cX5_go 112 = .ok (.aload_n 0, 1) := by decide +kernel
theorem dX5_go_113 : decode cX5_go 113 = .ok (.getfield 109, 3) := by decide +kernel
theorem dX5_go_116 : decode cX5_go 116 = .ok (.isub, 1) := by decide +kernel
theorem dX5_go_117 : decode cX5_go 117 = .ok (.bipush 6, 2) := by decide +kernel
theorem dX5_go_119 : decode cX5_go 119 = .ok (.if_icmp .ge 25, 3) := by decide +kernel
theorem dX5_go_122 : decode cX5_go 122 = .ok (.bipush 32, 2) := by decide +kernel
theorem dX5_go_124 : decode cX5_go 124 = .ok (.aload_n 0, 1) := by decide +kernel
theorem dX5_go_125 : decode cX5_go 125 = .ok (.getfield 115, 3) := by decide +kernel
theorem dX5_go_128 : decode cX5_go 128 = .ok (.imul, 1) := by decide +kernel
theorem dX5_go_129 : decode cX5_go 129 = .ok (.aload_n 0, 1) := by decide +kernel
theorem dX5_go_130 : decode cX5_go 130 = .ok (.aload_n 0, 1) := by decide +kernel
theorem dX5_go_131 : decode cX5_go 131 = .ok (.getfield 102, 3) := by decide +kernel
theorem dX5_go_134 : decode cX5_go 134 = .ok (.invokevirtual 105, 3) := by decide +kernel
theorem dX5_go_137 : decode cX5_go 137 = .ok (.iadd, 1) := by decide +kernel
theorem dX5_go_138 : decode cX5_go 138 = .ok (.bipush 96, 2) := by decide +kernel
theorem dX5_go_140 : decode cX5_go 140 = .ok (.isub, 1) := by decide +kernel
theorem dX5_go_141 : decode cX5_go 141 = .ok (.goto 7, 3) := by decide +kernel
theorem dX5_go_144 : decode cX5_go 144 = .ok (.aload_n 0, 1) := by decide +kernel
theorem dX5_go_145 : decode cX5_go 145 = .ok (.getfield 115, 3) := by decide +kernel
theorem dX5_go_148 : decode cX5_go 148 = .ok (.putfield 115, 3) := by decide +kernel
theorem dX5_go_151 : decode cX5_go 151 = .ok (.aload_n 0, 1) := by decide +kernel
theorem dX5_go_152 : decode cX5_go 152 = .ok (.dup, 1) := by decide +kernel
theorem dX5_go_153 : decode cX5_go 153 = .ok (.getfield 102, 3) := by decide +kernel
theorem dX5_go_156 : decode cX5_go 156 = .ok (.iconst 1, 1) := by decide +kernel
theorem dX5_go_157 : decode cX5_go 157 = .ok (.iadd, 1) := by decide +kernel
theorem dX5_go_158 : decode cX5_go 158 = .ok (.putfield 102, 3) := by decide +kernel
theorem dX5_go_161 : decode cX5_go 161 = .ok (.goto (-72), 3) := by decide +kernel
theorem dX5_go_164 : decode cX5_go 164 = .ok (.aload_n 0, 1) := by decide +kernel
theorem dX5_go_165 : decode cX5_go 165 = .ok (.aload_n 0, 1) := by decide +kernel
theorem dX5_go_166 : decode cX5_go 166 = .ok (.getfield 102, 3) := by decide +kernel
theorem dX5_go_169 : decode cX5_go 169 = .ok (.aload_n 0, 1) := by decide +kernel
theorem dX5_go_170 : decode cX5_go 170 = .ok (.getfield 109, 3) := by decide +kernel
theorem dX5_go_173 : decode cX5_go 173 = .ok (.isub, 1) := by decide +kernel
theorem dX5_go_174 : decode cX5_go 174 = .ok (.iconst 5, 1) := by decide +kernel
theorem dX5_go_175 : decode cX5_go 175 = .ok (.if_icmp .le 26, 3) := by decide +kernel
theorem dX5_go_178 : decode cX5_go 178 = .ok (.aload_n 0, 1) := by decide +kernel
theorem dX5_go_179 : decode cX5_go 179 = .ok (.getfield 102, 3) := by decide +kernel
theorem dX5_go_182 : decode cX5_go 182 = .ok (.aload_n 0, 1) := by decide +kernel
theorem dX5_go_183 : decode cX5_go 183 = .ok (.getfield 109, 3) := by decide +kernel
theorem dX5_go_186 : decode cX5_go 186 = .ok (.isub, 1) := by decide +kernel
theorem dX5_go_187 : decode cX5_go 187 = .ok (.bipush 6, 2) := by decide +kernel
theorem dX5_go_189 : decode cX5_go 189 = .ok (.if_icmp .ne 16, 3) := by decide +kernel
theorem dX5_go_192 : decode cX5_go 192 = .ok (.aload_n 0, 1) := by decide +kernel
theorem dX5_go_193 : decode cX5_go 193 = .ok (.getfield 115, 3) := by decide +kernel
theorem dX5_go_196 : decode cX5_go 196 = .ok (.ldc 121, 2) := by decide +kernel
theorem dX5_go_198 : decode cX5_go 198 = .ok (.if_icmp .ne 7, 3) := by decide +kernel
theorem dX5_go_201 : decode cX5_go 201 = .ok (.iconst 1, 1) := by decide +kernel
theorem dX5_go_202 : decode cX5_go 202 = .ok (.goto 4, 3) := by decide +kernel
theorem dX5_go_205 : decode cX5_go 205 = .ok (.iconst 4, 1) := by decide +kernel
theorem dX5_go_206 : decode cX5_go 206 = .ok (.putfield 118, 3) := by decide +kernel
theorem dX5_go_209 : decode cX5_go 209 = .ok (.goto 144, 3) := by decide +kernel
theorem dX5_go_212 : decode cX5_go 212 = .ok (.iload_n 1, 1) := by decide +kernel
theorem dX5_go_213 : decode cX5_go 213 = .ok (.bipush 48, 2) := by decide +kernel
theorem dX5_go_215 : decode cX5_go 215 = .ok (.bipush 57, 2) := by decide +kernel
theorem dX5_go_217 : decode cX5_go 217 = .ok (.invokestatic 89, 3) := by decide +kernel
theorem dX5_go_220 : decode cX5_go 220 = .ok (.ifCond .eq 102, 3) := by decide +kernel
theorem dX5_go_223 : decode cX5_go 223 = .ok (.aload_n 0, 1) := by decide +kernel
theorem dX5_go_224 : decode cX5_go 224 = .ok (.aload_n 0, 1) := by decide +kernel
theorem dX5_go_225 : decode cX5_go 225 = .ok (.getfield 102, 3) := by decide +kernel
theorem dX5_go_228 : decode cX5_go 228 = .ok (.invokevirtual 105, 3) := by decide +kernel
theorem dX5_go_231 : decode cX5_go 231 = .ok (.bipush 48, 2) := by decide +kernel
theorem dX5_go_233 : decode cX5_go 233 = .ok (.bipush 57, 2) := by decide +kernel
theorem dX5_go_235 : decode cX5_go 235 = .ok (.invokestatic 89, 3) := by decide +kernel
theorem dX5_go_238 : decode cX5_go 238 = .ok (.ifCond .eq 59, 3) := by decide +kernel
theorem dX5_go_241 : decode cX5_go 241 = .ok (.aload_n 0, 1) := by decide +kernel
theorem dX5_go_242 : decode cX5_go 242 = .ok (.aload_n 0, 1) := by decide +kernel
theorem dX5_go_243 : decode cX5_go 243 = .ok (.getfield 102, 3) := by decide +kernel
theorem dX5_go_246 : decode cX5_go 246 = .ok (.aload_n 0, 1) := by decide +kernel
theorem dX5_go_247 : decode cX5_go 247 = .ok (.getfield 109, 3) := by decide +kernel
theorem dX5_go_250 : decode cX5_go 250 = .ok (.isub, 1) := by decide +kernel
theorem dX5_go_251 : decode cX5_go 251 = .ok (.iconst 3, 1) := by decide +kernel
theorem dX5_go_252 : decode cX5_go 252 = .ok (.if_icmp .ge 25, 3) := by decide +kernel
theorem dX5_go_255 : decode cX5_go 255 = .ok (.bipush 10, 2) := by decide +kernel
theorem dX5_go_257 : decode cX5_go 257 = .ok (.aload_n 0, 1) := by decide +kernel
theorem dX5_go_258 : decode cX5_go 258 = .ok (.getfield 112, 3) := by decide +kernel
theorem dX5_go_261 : decode cX5_go 261 = .ok (.imul, 1) := by decide +kernel
theorem dX5_go_262 : decode cX5_go 262 = .ok (.aload_n 0, 1) := by decide +kernel
theorem dX5_go_263 : decode cX5_go 263 = .ok (.aload_n 0, 1) := by decide +kernel
theorem dX5_go_264 : decode cX5_go 264 = .ok (.getfield 102, 3) := by decide +kernel
theorem dX5_go_267 : decode cX5_go 267 = .ok (.invokevirtual 105, 3) := by decide +kernel
theorem dX5_go_270 : decode cX5_go 270 = .ok (.iadd, 1) := by decide +kernel
theorem dX5_go_271 : decode cX5_go 271 = .ok (.bipush 48, 2) := by decide +kernel
theorem dX5_go_273 : decode cX5_go 273 = .ok (.isub, 1) := by decide +kernel
theorem dX5_go_274 : decode cX5_go 274 = .ok (.goto 7, 3) := by decide +kernel
theorem dX5_go_277 : decode cX5_go 277 = .ok (.aload_n 0, 1) := by decide +kernel
theorem dX5_go_278 : decode cX5_go 278 = .ok (.getfield 112, 3) := by decide +kernel
theorem dX5_go_281 : decode cX5_go 281 = .ok (.putfield 112, 3) := by decide +kernel
theorem dX5_go_284 : decode cX5_go 284 = .ok (.aload_n 0, 1) := by decide +kernel
theorem dX5_go_285 : decode cX5_go 285 = .ok (.dup, 1) := by decide +kernel
theorem dX5_go_286 : decode cX5_go 286 = .ok (.getfield 102, 3) := by decide +kernel
theorem dX5_go_289 : decode cX5_go 289 = .ok (.iconst 1, 1) := by decide +kernel
theorem dX5_go_290 : decode cX5_go 290 = .ok (.iadd, 1) := by decide +kernel
theorem dX5_go_291 : decode cX5_go 291 = .ok (.putfield 102, 3) := by decide +kernel
theorem dX5_go_294 : decode cX5_go 294 = .ok (.goto (-71), 3) := by decide +kernel
theorem dX5_go_297 : decode cX5_go 297 = .ok (.aload_n 0, 1) := by decide +kernel
theorem dX5_go_298 : decode cX5_go 298 = .ok (.aload_n 0, 1) := by decide +kernel
theorem dX5_go_299 : decode cX5_go 299 = .ok (.getfield 102, 3) := by decide +kernel
theorem dX5_go_302 : decode cX5_go 302 = .ok (.aload_n 0, 1) := by decide +kernel
theorem dX5_go_303 : decode cX5_go 303 = .ok (.getfield 109, 3) := by decide +kernel
theorem dX5_go_306 : decode cX5_go 306 = .ok (.isub, 1) := by decide +kernel
theorem dX5_go_307 : decode cX5_go 307 = .ok (.iconst 3, 1) := by decide +kernel
theorem dX5_go_308 : decode cX5_go 308 = .ok (.if_icmp .gt 7, 3) := by decide +kernel
theorem dX5_go_311 : decode cX5_go 311 = .ok (.iconst 2, 1) := by decide +kernel
theorem dX5_go_312 : decode cX5_go 312 = .ok (.goto 4, 3) := by decide +kernel
theorem dX5_go_315 : decode cX5_go 315 = .ok (.iconst 4, 1) := by decide +kernel
theorem dX5_go_316 : decode cX5_go 316 = .ok (.putfield 118, 3) := by decide +kernel
theorem dX5_go_319 : decode cX5_go 319 = .ok (.goto 34, 3) := by decide +kernel
theorem dX5_go_322 : decode cX5_go 322 = .ok (.aload_n 0, 1) := by decide +kernel
theorem dX5_go_323 : decode cX5_go 323 = .ok (.dup, 1) := by decide +kernel
theorem dX5_go_324 : decode cX5_go 324 = .ok (.getfield 102, 3) := by decide +kernel
theorem dX5_go_327 : decode cX5_go 327 = .ok (.iconst 1, 1) := by decide +kernel
theorem dX5_go_328 : decode cX5_go 328 = .ok (.iadd, 1) := by decide +kernel
theorem dX5_go_329 : decode cX5_go 329 = .ok (.putfield 102, 3) := by decide +kernel
theorem dX5_go_332 : decode cX5_go 332 = .ok (.aload_n 0, 1) := by decide +kernel
theorem dX5_go_333 : decode cX5_go 333 = .ok (.iload_n 1, 1) := by decide +kernel
theorem dX5_go_334 : decode cX5_go 334 = .ok (.putfield 112, 3) := by decide +kernel
theorem dX5_go_337 : decode cX5_go 337 = .ok (.aload_n 0, 1) := by decide +kernel
theorem dX5_go_338 : decode cX5_go 338 = .ok (.iload_n 1, 1) := by decide +kernel
theorem dX5_go_339 : decode cX5_go 339 = .ok (.invokestatic 122, 3) := by decide +kernel
theorem dX5_go_342 : decode cX5_go 342 = .ok (.ifCond .eq 7, 3) := by decide +kernel
theorem dX5_go_345 : decode cX5_go 345 = .ok (.iconst 3, 1) := by decide +kernel
theorem dX5_go_346 : decode cX5_go 346 = .ok (.goto 4, 3) := by decide +kernel
theorem dX5_go_349 : decode cX5_go 349 = .ok (.iconst 4, 1) := by decide +kernel
theorem dX5_go_350 : decode cX5_go 350 = .ok (.putfield 118, 3) := by decide +kernel
theorem dX5_go_353 : decode cX5_go 353 = .ok (.return_, 1) := by decide +kernel
theorem dX5_is_0 : decode cX5_is 0 = .ok (.aload_n 0, 1) := by decide +kernel
theorem dX5_is_1 : decode cX5_is 1 = .ok (.getfield 118, 3) := by decide +kernel
theorem dX5_is_4 : decode cX5_is 4 = .ok (.iconst 3, 1) := by decide +kernel
theorem dX5_is_5 : decode cX5_is 5 = .ok (.if_icmp .ne 15, 3) := by decide +kernel
theorem dX5_is_8 : decode cX5_is 8 = .ok (.aload_n 0, 1) := by decide +kernel
theorem dX5_is_9 : decode cX5_is 9 = .ok (.getfield 112, 3) := by decide +kernel
theorem dX5_is_12 : decode cX5_is 12 = .ok (.iload_n 1, 1) := by decide +kernel
theorem dX5_is_13 : decode cX5_is 13 = .ok (.if_icmp .ne 7, 3) := by decide +kernel
theorem dX5_is_16 : decode cX5_is 16 = .ok (.iconst 1, 1) := by decide +kernel
theorem dX5_is_17 : decode cX5_is 17 = .ok (.goto 4, 3) := by decide +kernel
theorem dX5_is_20 : decode cX5_is 20 = .ok (.iconst 0, 1) := by decide +kernel
theorem dX5_is_21 : decode cX5_is 21 = .ok (.ireturn, 1) := by decide +kernel
theorem dX5_badAt_0 : decode cX5_badAt 0 = .ok (.aload_n 0, 1) := by decide +kernel
theorem dX5_badAt_1 : decode cX5_badAt 1 = .ok (.aload_n 0, 1) := by decide +kernel
theorem dX5_badAt_2 : decode cX5_badAt 2 = .ok (.getfield 126, 3) := by decide +kernel
theorem dX5_badAt_5 : decode cX5_badAt 5 = .ok (.ifCond .ne 12, 3) := by decide +kernel
theorem dX5_badAt_8 : decode cX5_badAt 8 = .ok (.bipush 8, 2) := by decide +kernel
theorem dX5_badAt_10 : decode cX5_badAt 10 = .ok (.iload_n 1, 1) := by decide +kernel
theorem dX5_badAt_11 : decode cX5_badAt 11 = .ok (.imul, 1) := by decide +kernel
theorem dX5_badAt_12 : decode cX5_badAt 12 = .ok (.iload_n 2, 1) := by decide +kernel
theorem dX5_badAt_13 : decode cX5_badAt 13 = .ok (.iadd, 1) := by decide +kernel
theorem dX5_badAt_14 : decode cX5_badAt 14 = .ok (.goto 7, 3) := by decide +kernel
theorem dX5_badAt_17 : decode cX5_badAt 17 = .ok (.aload_n 0, 1) := by decide +kernel
theorem dX5_badAt_18 : decode cX5_badAt 18 = .ok (.getfield 126, 3) := by decide +kernel
theorem dX5_badAt_21 : decode cX5_badAt 21 = .ok (.putfield 126, 3) := by decide +kernel
theorem dX5_badAt_24 : decode cX5_badAt 24 = .ok (.iconst 0, 1) := by decide +kernel
theorem dX5_badAt_25 : decode cX5_badAt 25 = .ok (.ireturn, 1) := by decide +kernel
set_option maxRecDepth 20000 in
theorem ggX5_bad_X5_badAt : GoodIn wsX5_bad wsX5_badAt := goodIn_r _ [6, 7, 8, 9, 10, 11, 12, 13, 14, 15, 16, 17, 18, 19, 20, 21, 22, 23, 24, 25, 26, 27, 28, 29, 30, 31, 32, 33, 34, 35, 36, 37, 38, 39, 40, 41, 42, 43, 44, 45, 46, 47, 48, 49] (by decide +kernel) (by decide +kernel)
set_option maxRecDepth 20000 in
theorem gX5_bad_X5_badAt : GoodIn wsX5_bad (wsV RX5 129 RX5 yX5_badAt wsX5_badAt) := goodIn_app (goodIn_of _ (by decide +kernel)) ggX5_bad_X5_badAt
theorem dX5_bad_0 : decode cX5_bad 0 = .ok (.aload_n 0, 1) := by decide +kernel
theorem dX5_bad_1 : decode cX5_bad 1 = .ok (.aload_n 0, 1) := by decide +kernel
theorem dX5_bad_2 : decode cX5_bad 2 = .ok (.getfield 109, 3) := by decide +kernel
theorem dX5_bad_5 : decode cX5_bad 5 = .ok (.iload_n 1, 1) := by decide +kernel
theorem dX5_bad_6 : decode cX5_bad 6 = .ok (.invokevirtual 129, 3) := by decide +kernel
theorem dX5_bad_9 : decode cX5_bad 9 = .ok (.ireturn, 1) := by decide +kernel
set_option maxRecDepth 20000 in
theorem ggX5_sign_X5_is : GoodIn wsX5_sign wsX5_is := goodIn_r _ [5, 6, 7, 37, 38, 39, 40, 41, 42, 43, 44, 45, 46, 47, 48, 49, 50, 51, 52, 53, 54, 55, 56, 57, 58, 59, 60, 61, 62, 63, 64, 65, 66, 67, 68, 69, 70, 71, 72, 73, 74, 75, 76, 77, 78] (by decide +kernel) (by decide +kernel)
set_option maxRecDepth 20000 in
theorem gX5_sign_X5_is : GoodIn wsX5_sign (wsV RX5 133 RX5 yX5_is wsX5_is) := goodIn_app (goodIn_of _ (by decide +kernel)) ggX5_sign_X5_is
set_option maxRecDepth 20000 in
theorem ggX5_sign_X5_bad : GoodIn wsX5_sign wsX5_bad := goodIn_r _ [11, 12, 13, 14, 15, 4, 16, 17, 37, 38, 39, 40, 41, 42, 43, 44, 45, 46, 47, 48, 49, 50, 51, 52, 53, 54, 55, 56, 57, 58, 59, 60, 61, 62, 63, 64, 65, 66, 67, 68, 69, 70, 71, 72, 73, 74, 75, 76, 77, 78] (by decide +kernel) (by decide +kernel)
set_option maxRecDepth 20000 in
theorem gX5_sign_X5_bad : GoodIn wsX5_sign (wsV RX5 136 RX5 yX5_bad wsX5_bad) := goodIn_app (goodIn_of _ (by decide +kernel)) ggX5_sign_X5_bad
set_option maxRecDepth 20000 in
theorem ggX5_sign_X5_go : GoodIn wsX5_sign wsX5_go := goodIn_r _ [21, 22, 12, 7, 23, 6, 24, 25, 26, 27, 4, 28, 29, 30, 31, 32, 33, 34, 35, 36, 37, 38, 39, 40, 41, 42, 43, 44, 45, 46, 47, 48, 49, 50, 51, 52, 53, 54, 55, 56, 57, 58, 59, 60, 61, 62, 63, 64, 65, 66, 67, 68, 69, 70, 71, 72, 73, 74, 75, 76, 77, 78] (by decide +kernel) (by decide +kernel)
set_option maxRecDepth 20000 in
theorem gX5_sign_X5_go : GoodIn wsX5_sign (wsV RX5 139 RX5 yX5_go wsX5_go) := goodIn_app (goodIn_of _ (by decide +kernel)) ggX5_sign_X5_go
theorem dX5_sign_0 : decode cX5_sign 0 = .ok (.aload_n 0, 1) := by decide +kernel
theorem dX5_sign_1 : decode cX5_sign 1 = .ok (.iload_n 1, 1) := by decide +kernel
theorem dX5_sign_2 : decode cX5_sign 2 = .ok (.invokevirtual 133, 3) := by decide +kernel
theorem dX5_sign_5 : decode cX5_sign 5 = .ok (.ifCond .ne 9, 3) := by decide +kernel
theorem dX5_sign_8 : decode cX5_sign 8 = .ok (.aload_n 0, 1) := by decide +kernel
theorem dX5_sign_9 : decode cX5_sign 9 = .ok (.iconst 1, 1) := by decide +kernel
theorem dX5_sign_10 : decode cX5_sign 10 = .ok (.invokevirtual 136, 3) := by decide +kernel
theorem dX5_sign_13 : decode cX5_sign 13 = .ok (.ireturn, 1) := by decide +kernel
theorem dX5_sign_14 : decode cX5_sign 14 = .ok (.aload_n 0, 1) := by decide +kernel
theorem dX5_sign_15 : decode cX5_sign 15 = .ok (.invokevirtual 139, 3) := by decide +kernel
theorem dX5_sign_18 : decode cX5_sign 18 = .ok (.iconst 1, 1) := by decide +kernel
theorem dX5_sign_19 : decode cX5_sign 19 = .ok (.ireturn, 1) := by decide +kernel
theorem dX5_ties_0 : decode cX5_ties 0 = .ok (.iload_n 1, 1) := by decide +kernel
theorem dX5_ties_1 : decode cX5_ties 1 = .ok (.sipush 1100, 3) := by decide +kernel
theorem dX5_ties_4 : decode cX5_ties 4 = .ok (.if_icmp .lt 17, 3) := by decide +kernel
theorem dX5_ties_7 : decode cX5_ties 7 = .ok (.aload_n 0, 1) := by decide +kernel
theorem dX5_ties_8 : decode cX5_ties 8 = .ok (.getfield 27, 3) := by decide +kernel
theorem dX5_ties_11 : decode cX5_ties 11 = .ok (.iload_n 1, 1) := by decide +kernel
theorem dX5_ties_12 : decode cX5_ties 12 = .ok (.sipush 1100, 3) := by decide +kernel
theorem dX5_ties_15 : decode cX5_ties 15 = .ok (.isub, 1) := by decide +kernel
theorem dX5_ties_16 : decode cX5_ties 16 = .ok (.iload_n 2, 1) := by decide +kernel
theorem dX5_ties_17 : decode cX5_ties 17 = .ok (.iastore, 1) := by decide +kernel
theorem dX5_ties_18 : decode cX5_ties 18 = .ok (.goto 14, 3) := by decide +kernel
theorem dX5_ties_21 : decode cX5_ties 21 = .ok (.aload_n 0, 1) := by decide +kernel
theorem dX5_ties_22 : decode cX5_ties 22 = .ok (.getfield 7, 3) := by decide +kernel
theorem dX5_ties_25 : decode cX5_ties 25 = .ok (.sipush 630, 3) := by decide +kernel
theorem dX5_ties_28 : decode cX5_ties 28 = .ok (.iload_n 1, 1) := by decide +kernel
theorem dX5_ties_29 : decode cX5_ties 29 = .ok (.iadd, 1) := by decide +kernel
theorem dX5_ties_30 : decode cX5_ties 30 = .ok (.iload_n 2, 1) := by decide +kernel
theorem dX5_ties_31 : decode cX5_ties 31 = .ok (.iastore, 1) := by decide +kernel
theorem dX5_ties_32 : decode cX5_ties 32 = .ok (.iload_n 2, 1) := by decide +kernel
theorem dX5_ties_33 : decode cX5_ties 33 = .ok (.sipush 1100, 3) := by decide +kernel
theorem dX5_ties_36 : decode cX5_ties 36 = .ok (.if_icmp .lt 17, 3) := by decide +kernel
theorem dX5_ties_39 : decode cX5_ties 39 = .ok (.aload_n 0, 1) := by decide +kernel
theorem dX5_ties_40 : decode cX5_ties 40 = .ok (.getfield 27, 3) := by decide +kernel
theorem dX5_ties_43 : decode cX5_ties 43 = .ok (.iload_n 2, 1) := by decide +kernel
theorem dX5_ties_44 : decode cX5_ties 44 = .ok (.sipush 1100, 3) := by decide +kernel
theorem dX5_ties_47 : decode cX5_ties 47 = .ok (.isub, 1) := by decide +kernel
theorem dX5_ties_48 : decode cX5_ties 48 = .ok (.iload_n 1, 1) := by decide +kernel
theorem dX5_ties_49 : decode cX5_ties 49 = .ok (.iastore, 1) := by decide +kernel
theorem dX5_ties_50 : decode cX5_ties 50 = .ok (.goto 14, 3) := by decide +kernel
theorem dX5_ties_53 : decode cX5_ties 53 = .ok (.aload_n 0, 1) := by decide +kernel
theorem dX5_ties_54 : decode cX5_ties 54 = .ok (.getfield 7, 3) := by decide +kernel
theorem dX5_ties_57 : decode cX5_ties 57 = .ok (.sipush 630, 3) := by decide +kernel
theorem dX5_ties_60 : decode cX5_ties 60 = .ok (.iload_n 2, 1) := by decide +kernel
theorem dX5_ties_61 : decode cX5_ties 61 = .ok (.iadd, 1) := by decide +kernel
theorem dX5_ties_62 : decode cX5_ties 62 = .ok (.iload_n 1, 1) := by decide +kernel
theorem dX5_ties_63 : decode cX5_ties 63 = .ok (.iastore, 1) := by decide +kernel
theorem dX5_ties_64 : decode cX5_ties 64 = .ok (.return_, 1) := by decide +kernel
theorem dX5_nameAt_0 : decode cX5_nameAt 0 = .ok (.iconst 0, 1) := by decide +kernel
theorem dX5_nameAt_1 : decode cX5_nameAt 1 = .ok (.istore_n 1, 1) := by decide +kernel
theorem dX5_nameAt_2 : decode cX5_nameAt 2 = .ok (.iload_n 1, 1) := by decide +kernel
theorem dX5_nameAt_3 : decode cX5_nameAt 3 = .ok (.aload_n 0, 1) := by decide +kernel
theorem dX5_nameAt_4 : decode cX5_nameAt 4 = .ok (.getfield 142, 3) := by decide +kernel
theorem dX5_nameAt_7 : decode cX5_nameAt 7 = .ok (.if_icmp .ge 22, 3) := by decide +kernel
theorem dX5_nameAt_10 : decode cX5_nameAt 10 = .ok (.aload_n 0, 1) := by decide +kernel
theorem dX5_nameAt_11 : decode cX5_nameAt 11 = .ok (.getfield 21, 3) := by decide +kernel
theorem dX5_nameAt_14 : decode cX5_nameAt 14 = .ok (.iload_n 1, 1) := by decide +kernel
theorem dX5_nameAt_15 : decode cX5_nameAt 15 = .ok (.iaload, 1) := by decide +kernel
theorem dX5_nameAt_16 : decode cX5_nameAt 16 = .ok (.aload_n 0, 1) := by decide +kernel
theorem dX5_nameAt_17 : decode cX5_nameAt 17 = .ok (.getfield 115, 3) := by decide +kernel
theorem dX5_nameAt_20 : decode cX5_nameAt 20 = .ok (.if_icmp .eq 9, 3) := by decide +kernel
theorem dX5_nameAt_23 : decode cX5_nameAt 23 = .ok (.iinc 1 1, 3) := by decide +kernel
theorem dX5_nameAt_26 : decode cX5_nameAt 26 = .ok (.goto (-24), 3) := by decide +kernel
theorem dX5_nameAt_29 : decode cX5_nameAt 29 = .ok (.iload_n 1, 1) := by decide +kernel
theorem dX5_nameAt_30 : decode cX5_nameAt 30 = .ok (.aload_n 0, 1) := by decide +kernel
theorem dX5_nameAt_31 : decode cX5_nameAt 31 = .ok (.getfield 142, 3) := by decide +kernel
theorem dX5_nameAt_34 : decode cX5_nameAt 34 = .ok (.if_icmp .ne 30, 3) := by decide +kernel
theorem dX5_nameAt_37 : decode cX5_nameAt 37 = .ok (.aload_n 0, 1) := by decide +kernel
theorem dX5_nameAt_38 : decode cX5_nameAt 38 = .ok (.getfield 21, 3) := by decide +kernel
theorem dX5_nameAt_41 : decode cX5_nameAt 41 = .ok (.iload_n 1, 1) := by decide +kernel
theorem dX5_nameAt_42 : decode cX5_nameAt 42 = .ok (.aload_n 0, 1) := by decide +kernel
theorem dX5_nameAt_43 : decode cX5_nameAt 43 = .ok (.getfield 115, 3) := by decide +kernel
theorem dX5_nameAt_46 : decode cX5_nameAt 46 = .ok (.iastore, 1) := by decide +kernel
theorem dX5_nameAt_47 : decode cX5_nameAt 47 = .ok (.aload_n 0, 1) := by decide +kernel
theorem dX5_nameAt_48 : decode cX5_nameAt 48 = .ok (.getfield 24, 3) := by decide +kernel
theorem dX5_nameAt_51 : decode cX5_nameAt 51 = .ok (.iload_n 1, 1) := by decide +kernel
theorem dX5_nameAt_52 : decode cX5_nameAt 52 = .ok (.iconst 0, 1) := by decide +kernel
theorem dX5_nameAt_53 : decode cX5_nameAt 53 = .ok (.iastore, 1) := by decide +kernel
theorem dX5_nameAt_54 : decode cX5_nameAt 54 = .ok (.aload_n 0, 1) := by decide +kernel
theorem dX5_nameAt_55 : decode cX5_nameAt 55 = .ok (.dup, 1) := by decide +kernel
theorem dX5_nameAt_56 : decode cX5_nameAt 56 = .ok (.getfield 142, 3) := by decide +kernel
theorem dX5_nameAt_59 : decode cX5_nameAt 59 = .ok (.iconst 1, 1) := by decide +kernel
theorem dX5_nameAt_60 : decode cX5_nameAt 60 = .ok (.iadd, 1) := by decide +kernel
theorem dX5_nameAt_61 : decode cX5_nameAt 61 = .ok (.putfield 142, 3) := by decide +kernel
theorem dX5_nameAt_64 : decode cX5_nameAt 64 = .ok (.iload_n 1, 1) := by decide +kernel
theorem dX5_nameAt_65 : decode cX5_nameAt 65 = .ok (.ireturn, 1) := by decide +kernel
set_option maxRecDepth 20000 in
theorem ggX5_name_X5_nameAt : GoodIn wsX5_name wsX5_nameAt := goodIn_r _ [7, 8, 9, 10, 1, 41, 42, 43, 44, 45, 46, 47, 48, 49, 50, 51, 52, 53, 54, 55, 56, 57, 58, 59, 60, 61, 62, 63, 64, 65, 66, 67, 68, 69, 70, 71, 72, 73, 74, 75, 76, 77, 78, 79, 80, 81, 82] (by decide +kernel) (by decide +kernel)
set_option maxRecDepth 20000 in
theorem gX5_name_X5_nameAt : GoodIn wsX5_name (wsV RX5 145 RX5 yX5_nameAt wsX5_nameAt) := goodIn_app (goodIn_of _ (by decide +kernel)) ggX5_name_X5_nameAt
set_option maxRecDepth 20000 in
theorem ggX5_name_X5_bad : GoodIn wsX5_name wsX5_bad := goodIn_r _ [14, 15, 16, 17, 18, 6, 19, 20, 41, 42, 43, 44, 45, 46, 47, 48, 49, 50, 51, 52, 53, 54, 55, 56, 57, 58, 59, 60, 61, 62, 63, 64, 65, 66, 67, 68, 69, 70, 71, 72, 73, 74, 75, 76, 77, 78, 79, 80, 81, 82] (by decide +kernel) (by decide +kernel)
set_option maxRecDepth 20000 in
theorem gX5_name_X5_bad : GoodIn wsX5_name (wsV RX5 136 RX5 yX5_bad wsX5_bad) := goodIn_app (goodIn_of _ (by decide +kernel)) ggX5_name_X5_bad
set_option maxRecDepth 20000 in
theorem ggX5_name_X5_go : GoodIn wsX5_name wsX5_go := goodIn_r _ [24, 25, 15, 26, 10, 27, 28, 29, 30, 31, 6, 32, 33, 34, 35, 36, 37, 38, 39, 40, 41, 42, 43, 44, 45, 46, 47, 48, 49, 50, 51, 52, 53, 54, 55, 56, 57, 58, 59, 60, 61, 62, 63, 64, 65, 66, 67, 68, 69, 70, 71, 72, 73, 74, 75, 76, 77, 78, 79, 80, 81, 82] (by decide +kernel) (by decide +kernel)
set_option maxRecDepth 20000 in
theorem gX5_name_X5_go : GoodIn wsX5_name (wsV RX5 139 RX5 yX5_go wsX5_go) := goodIn_app (goodIn_of _ (by decide +kernel)) ggX5_name_X5_go
theorem dX5_name_0 : decode cX5_name 0 = .ok (.aload_n 0, 1) := by decide +kernel
theorem dX5_name_1 : decode cX5_name 1 = .ok (.invokevirtual 145, 3) := by decide +kernel
theorem dX5_name_4 : decode cX5_name 4 = .ok (.istore_n 1, 1) := by decide +kernel
theorem dX5_name_5 : decode cX5_name 5 = .ok (.aload_n 0, 1) := by decide +kernel
theorem dX5_name_6 : decode cX5_name 6 = .ok (.getfield 24, 3) := by decide +kernel
theorem dX5_name_9 : decode cX5_name 9 = .ok (.iload_n 1, 1) := by decide +kernel
theorem dX5_name_10 : decode cX5_name 10 = .ok (.iaload, 1) := by decide +kernel
theorem dX5_name_11 : decode cX5_name 11 = .ok (.iconst 2, 1) := by decide +kernel
theorem dX5_name_12 : decode cX5_name 12 = .ok (.if_icmp .ne 9, 3) := by decide +kernel
theorem dX5_name_15 : decode cX5_name 15 = .ok (.aload_n 0, 1) := by decide +kernel
theorem dX5_name_16 : decode cX5_name 16 = .ok (.iconst 2, 1) := by decide +kernel
theorem dX5_name_17 : decode cX5_name 17 = .ok (.invokevirtual 136, 3) := by decide +kernel
theorem dX5_name_20 : decode cX5_name 20 = .ok (.ireturn, 1) := by decide +kernel
theorem dX5_name_21 : decode cX5_name 21 = .ok (.aload_n 0, 1) := by decide +kernel
theorem dX5_name_22 : decode cX5_name 22 = .ok (.sipush 1100, 3) := by decide +kernel
theorem dX5_name_25 : decode cX5_name 25 = .ok (.iconst 2, 1) := by decide +kernel
theorem dX5_name_26 : decode cX5_name 26 = .ok (.iload_n 1, 1) := by decide +kernel
theorem dX5_name_27 : decode cX5_name 27 = .ok (.imul, 1) := by decide +kernel
theorem dX5_name_28 : decode cX5_name 28 = .ok (.iadd, 1) := by decide +kernel
theorem dX5_name_29 : decode cX5_name 29 = .ok (.aload_n 0, 1) := by decide +kernel
theorem dX5_name_30 : decode cX5_name 30 = .ok (.getfield 24, 3) := by decide +kernel
theorem dX5_name_33 : decode cX5_name 33 = .ok (.iload_n 1, 1) := by decide +kernel
theorem dX5_name_34 : decode cX5_name 34 = .ok (.iaload, 1) := by decide +kernel
theorem dX5_name_35 : decode cX5_name 35 = .ok (.iadd, 1) := by decide +kernel
theorem dX5_name_36 : decode cX5_name 36 = .ok (.putfield 149, 3) := by decide +kernel
theorem dX5_name_39 : decode cX5_name 39 = .ok (.aload_n 0, 1) := by decide +kernel
theorem dX5_name_40 : decode cX5_name 40 = .ok (.getfield 24, 3) := by decide +kernel
theorem dX5_name_43 : decode cX5_name 43 = .ok (.iload_n 1, 1) := by decide +kernel
theorem dX5_name_44 : decode cX5_name 44 = .ok (.dup2, 1) := by decide +kernel
theorem dX5_name_45 : decode cX5_name 45 = .ok (.iaload, 1) := by decide +kernel
theorem dX5_name_46 : decode cX5_name 46 = .ok (.iconst 1, 1) := by decide +kernel
theorem dX5_name_47 : decode cX5_name 47 = .ok (.iadd, 1) := by decide +kernel
theorem dX5_name_48 : decode cX5_name 48 = .ok (.iastore, 1) := by decide +kernel
theorem dX5_name_49 : decode cX5_name 49 = .ok (.aload_n 0, 1) := by decide +kernel
theorem dX5_name_50 : decode cX5_name 50 = .ok (.invokevirtual 139, 3) := by decide +kernel
theorem dX5_name_53 : decode cX5_name 53 = .ok (.iconst 1, 1) := by decide +kernel
theorem dX5_name_54 : decode cX5_name 54 = .ok (.ireturn, 1) := by decide +kernel
set_option maxRecDepth 20000 in
theorem ggX5_eraser_X5_hasRoom : GoodIn wsX5_eraser wsX5_hasRoom := goodIn_r _ [6, 7, 43, 44, 45, 46, 47, 48, 49, 50, 51, 52, 53, 54, 55, 56, 57, 58, 59, 60, 61, 62, 63, 64, 65, 66, 67, 68, 69, 70, 71, 72, 73, 74, 75, 76, 77, 78, 79, 80, 81, 82, 83, 84] (by decide +kernel) (by decide +kernel)
set_option maxRecDepth 20000 in
theorem gX5_eraser_X5_hasRoom : GoodIn wsX5_eraser (wsV RX5 152 RX5 yX5_hasRoom wsX5_hasRoom) := goodIn_app (goodIn_of _ (by decide +kernel)) ggX5_eraser_X5_hasRoom
set_option maxRecDepth 20000 in
theorem ggX5_eraser_X5_bad : GoodIn wsX5_eraser wsX5_bad := goodIn_r _ [11, 12, 13, 14, 15, 5, 16, 17, 43, 44, 45, 46, 47, 48, 49, 50, 51, 52, 53, 54, 55, 56, 57, 58, 59, 60, 61, 62, 63, 64, 65, 66, 67, 68, 69, 70, 71, 72, 73, 74, 75, 76, 77, 78, 79, 80, 81, 82, 83, 84] (by decide +kernel) (by decide +kernel)
set_option maxRecDepth 20000 in
theorem gX5_eraser_X5_bad : GoodIn wsX5_eraser (wsV RX5 136 RX5 yX5_bad wsX5_bad) := goodIn_app (goodIn_of _ (by decide +kernel)) ggX5_eraser_X5_bad
set_option maxRecDepth 20000 in
theorem ggX5_eraser_X5_makes : GoodIn wsX5_eraser wsX5_makes := goodIn_r _ [21, 7, 43, 44, 45, 46, 47, 48, 49, 50, 51, 52, 53, 54, 55, 56, 57, 58, 59, 60, 61, 62, 63, 64, 65, 66, 67, 68, 69, 70, 71, 72, 73, 74, 75, 76, 77, 78, 79, 80, 81, 82, 83, 84] (by decide +kernel) (by decide +kernel)
set_option maxRecDepth 20000 in
theorem gX5_eraser_X5_makes : GoodIn wsX5_eraser (wsV RX5 155 RX5 yX5_makes wsX5_makes) := goodIn_app (goodIn_of _ (by decide +kernel)) ggX5_eraser_X5_makes
set_option maxRecDepth 20000 in
theorem ggX5_eraser_X5_go : GoodIn wsX5_eraser wsX5_go := goodIn_r _ [25, 26, 12, 27, 28, 29, 30, 31, 32, 33, 5, 34, 35, 36, 37, 38, 39, 40, 41, 42, 43, 44, 45, 46, 47, 48, 49, 50, 51, 52, 53, 54, 55, 56, 57, 58, 59, 60, 61, 62, 63, 64, 65, 66, 67, 68, 69, 70, 71, 72, 73, 74, 75, 76, 77, 78, 79, 80, 81, 82, 83, 84] (by decide +kernel) (by decide +kernel)
set_option maxRecDepth 20000 in
theorem gX5_eraser_X5_go : GoodIn wsX5_eraser (wsV RX5 139 RX5 yX5_go wsX5_go) := goodIn_app (goodIn_of _ (by decide +kernel)) ggX5_eraser_X5_go
theorem dX5_eraser_0 : decode cX5_eraser 0 = .ok (.aload_n 0, 1) := by decide +kernel
theorem dX5_eraser_1 : decode cX5_eraser 1 = .ok (.iconst 1, 1) := by decide +kernel
theorem dX5_eraser_2 : decode cX5_eraser 2 = .ok (.invokevirtual 152, 3) := by decide +kernel
theorem dX5_eraser_5 : decode cX5_eraser 5 = .ok (.ifCond .ne 9, 3) := by decide +kernel
theorem dX5_eraser_8 : decode cX5_eraser 8 = .ok (.aload_n 0, 1) := by decide +kernel
theorem dX5_eraser_9 : decode cX5_eraser 9 = .ok (.iconst 5, 1) := by decide +kernel
theorem dX5_eraser_10 : decode cX5_eraser 10 = .ok (.invokevirtual 136, 3) := by decide +kernel
theorem dX5_eraser_13 : decode cX5_eraser 13 = .ok (.ireturn, 1) := by decide +kernel
theorem dX5_eraser_14 : decode cX5_eraser 14 = .ok (.aload_n 0, 1) := by decide +kernel
theorem dX5_eraser_15 : decode cX5_eraser 15 = .ok (.iconst 3, 1) := by decide +kernel
theorem dX5_eraser_16 : decode cX5_eraser 16 = .ok (.aload_n 0, 1) := by decide +kernel
theorem dX5_eraser_17 : decode cX5_eraser 17 = .ok (.iconst 0, 1) := by decide +kernel
theorem dX5_eraser_18 : decode cX5_eraser 18 = .ok (.invokevirtual 155, 3) := by decide +kernel
theorem dX5_eraser_21 : decode cX5_eraser 21 = .ok (.imul, 1) := by decide +kernel
theorem dX5_eraser_22 : decode cX5_eraser 22 = .ok (.putfield 149, 3) := by decide +kernel
theorem dX5_eraser_25 : decode cX5_eraser 25 = .ok (.aload_n 0, 1) := by decide +kernel
theorem dX5_eraser_26 : decode cX5_eraser 26 = .ok (.invokevirtual 139, 3) := by decide +kernel
theorem dX5_eraser_29 : decode cX5_eraser 29 = .ok (.iconst 1, 1) := by decide +kernel
theorem dX5_eraser_30 : decode cX5_eraser 30 = .ok (.ireturn, 1) := by decide +kernel
set_option maxRecDepth 20000 in
theorem ggX5_node_X5_bad : GoodIn wsX5_node wsX5_bad := goodIn_r _ [7, 8, 9, 10, 11, 6, 12, 13, 96, 97, 98, 99, 100, 101, 102, 103, 104, 105, 106, 107, 108, 109, 110, 111, 112, 113, 114, 115, 116, 117, 118, 119, 120, 121, 122, 123, 124, 125, 126, 127, 128, 129, 130, 131, 132, 133, 134, 135, 136, 137] (by decide +kernel) (by decide +kernel)
set_option maxRecDepth 20000 in
theorem gX5_node_X5_bad : GoodIn wsX5_node (wsV RX5 136 RX5 yX5_bad wsX5_bad) := goodIn_app (goodIn_of _ (by decide +kernel)) ggX5_node_X5_bad
set_option maxRecDepth 20000 in
theorem ggX5_node_X5_hasRoom : GoodIn wsX5_node wsX5_hasRoom := goodIn_r _ [17, 18, 96, 97, 98, 99, 100, 101, 102, 103, 104, 105, 106, 107, 108, 109, 110, 111, 112, 113, 114, 115, 116, 117, 118, 119, 120, 121, 122, 123, 124, 125, 126, 127, 128, 129, 130, 131, 132, 133, 134, 135, 136, 137] (by decide +kernel) (by decide +kernel)
set_option maxRecDepth 20000 in
theorem gX5_node_X5_hasRoom : GoodIn wsX5_node (wsV RX5 152 RX5 yX5_hasRoom wsX5_hasRoom) := goodIn_app (goodIn_of _ (by decide +kernel)) ggX5_node_X5_hasRoom
set_option maxRecDepth 20000 in
theorem ggX5_node_X5_makes : GoodIn wsX5_node wsX5_makes := goodIn_r _ [22, 18, 96, 97, 98, 99, 100, 101, 102, 103, 104, 105, 106, 107, 108, 109, 110, 111, 112, 113, 114, 115, 116, 117, 118, 119, 120, 121, 122, 123, 124, 125, 126, 127, 128, 129, 130, 131, 132, 133, 134, 135, 136, 137] (by decide +kernel) (by decide +kernel)
set_option maxRecDepth 20000 in
theorem gX5_node_X5_makes : GoodIn wsX5_node (wsV RX5 155 RX5 yX5_makes wsX5_makes) := goodIn_app (goodIn_of _ (by decide +kernel)) ggX5_node_X5_makes
set_option maxRecDepth 20000 in
theorem ggX5_node_X5_go : GoodIn wsX5_node wsX5_go := goodIn_r _ [26, 27, 8, 28, 29, 30, 31, 32, 33, 34, 6, 35, 36, 37, 38, 39, 40, 41, 42, 43, 96, 97, 98, 99, 100, 101, 102, 103, 104, 105, 106, 107, 108, 109, 110, 111, 112, 113, 114, 115, 116, 117, 118, 119, 120, 121, 122, 123, 124, 125, 126, 127, 128, 129, 130, 131, 132, 133, 134, 135, 136, 137] (by decide +kernel) (by decide +kernel)
set_option maxRecDepth 20000 in
theorem gX5_node_X5_go : GoodIn wsX5_node (wsV RX5 139 RX5 yX5_go wsX5_go) := goodIn_app (goodIn_of _ (by decide +kernel)) ggX5_node_X5_go
set_option maxRecDepth 20000 in
theorem ggX5_node_X5_tree : GoodIn wsX5_node wsX5_tree := goodIn_r _ [60, 30, 29, 31, 61, 62, 63, 6, 64, 65, 2, 66, 67, 68, 69, 70, 71, 3, 4, 5, 7, 8, 9, 10, 11, 12, 13, 23, 24, 25, 26, 27, 28, 32, 33, 34, 35, 36, 37, 38, 39, 40, 41, 42, 43, 56, 57, 58, 59, 72, 73, 74, 75, 14, 15, 16, 17, 18, 19, 20, 21, 22, 76, 77, 78, 79, 80, 81, 82, 83, 84, 85, 86, 87, 88, 89, 90, 91, 92, 93, 94, 95, 0, 1, 44, 45, 46, 47, 48, 49, 50, 51, 52, 53, 54, 55, 96, 97, 98, 99, 100, 101, 102, 103, 104, 105, 106, 107, 108, 109, 110, 111, 112, 113, 114, 115, 116, 117, 118, 119, 120, 121, 122, 123, 124, 125, 126, 127, 128, 129, 130, 131, 132, 133, 134, 135, 136, 137] (by decide +kernel) (by decide +kernel)
set_option maxRecDepth 20000 in
theorem gX5_node_X5_tree : GoodIn wsX5_node (wsV RX5 161 RX5 yX5_tree wsX5_tree) := goodIn_app (goodIn_of _ (by decide +kernel)) ggX5_node_X5_tree
set_option maxRecDepth 20000 in
theorem ggX5_node_X5_ties : GoodIn wsX5_node wsX5_ties := goodIn_r _ [50, 51, 18, 96, 97, 98, 99, 100, 101, 102, 103, 104, 105, 106, 107, 108, 109, 110, 111, 112, 113, 114, 115, 116, 117, 118, 119, 120, 121, 122, 123, 124, 125, 126, 127, 128, 129, 130, 131, 132, 133, 134, 135, 136, 137] (by decide +kernel) (by decide +kernel)
set_option maxRecDepth 20000 in
theorem gX5_node_X5_ties : GoodIn wsX5_node (wsV RX5 165 RX5 yX5_ties wsX5_ties) := goodIn_app (goodIn_of _ (by decide +kernel)) ggX5_node_X5_ties
set_option maxRecDepth 20000 in
theorem ggX5_node_X5_sign : GoodIn wsX5_node wsX5_sign := goodIn_r _ [55, 56, 57, 58, 6, 59, 30, 28, 3, 4, 5, 7, 8, 9, 10, 11, 12, 13, 23, 24, 25, 26, 27, 29, 31, 32, 33, 34, 35, 36, 37, 38, 39, 40, 41, 42, 43, 96, 97, 98, 99, 100, 101, 102, 103, 104, 105, 106, 107, 108, 109, 110, 111, 112, 113, 114, 115, 116, 117, 118, 119, 120, 121, 122, 123, 124, 125, 126, 127, 128, 129, 130, 131, 132, 133, 134, 135, 136, 137] (by decide +kernel) (by decide +kernel)
set_option maxRecDepth 20000 in
theorem gX5_node_X5_sign : GoodIn wsX5_node (wsV RX5 169 RX5 yX5_sign wsX5_sign) := goodIn_app (goodIn_of _ (by decide +kernel)) ggX5_node_X5_sign
theorem dX5_node_0 : decode cX5_node 0 = .ok (.aload_n 0, 1) := by decide +kernel
theorem dX5_node_1 : decode cX5_node 1 = .ok (.getfield 158, 3) := by decide +kernel
theorem dX5_node_4 : decode cX5_node 4 = .ok (.bipush 20, 2) := by decide +kernel
theorem dX5_node_6 : decode cX5_node 6 = .ok (.if_icmp .ne 9, 3) := by decide +kernel
theorem dX5_node_9 : decode cX5_node 9 = .ok (.aload_n 0, 1) := by decide +kernel
theorem dX5_node_10 : decode cX5_node 10 = .ok (.iconst 4, 1) := by decide +kernel
theorem dX5_node_11 : decode cX5_node 11 = .ok (.invokevirtual 136, 3) := by decide +kernel
theorem dX5_node_14 : decode cX5_node 14 = .ok (.ireturn, 1) := by decide +kernel
theorem dX5_node_15 : decode cX5_node 15 = .ok (.aload_n 0, 1) := by decide +kernel
theorem dX5_node_16 : decode cX5_node 16 = .ok (.iconst 1, 1) := by decide +kernel
theorem dX5_node_17 : decode cX5_node 17 = .ok (.invokevirtual 152, 3) := by decide +kernel
theorem dX5_node_20 : decode cX5_node 20 = .ok (.ifCond .ne 9, 3) := by decide +kernel
theorem dX5_node_23 : decode cX5_node 23 = .ok (.aload_n 0, 1) := by decide +kernel
theorem dX5_node_24 : decode cX5_node 24 = .ok (.iconst 5, 1) := by decide +kernel
theorem dX5_node_25 : decode cX5_node 25 = .ok (.invokevirtual 136, 3) := by decide +kernel
theorem dX5_node_28 : decode cX5_node 28 = .ok (.ireturn, 1) := by decide +kernel
theorem dX5_node_29 : decode cX5_node 29 = .ok (.aload_n 0, 1) := by decide +kernel
theorem dX5_node_30 : decode cX5_node 30 = .ok (.iload_n 1, 1) := by decide +kernel
theorem dX5_node_31 : decode cX5_node 31 = .ok (.invokevirtual 155, 3) := by decide +kernel
theorem dX5_node_34 : decode cX5_node 34 = .ok (.istore_n 3, 1) := by decide +kernel
theorem dX5_node_35 : decode cX5_node 35 = .ok (.aload_n 0, 1) := by decide +kernel
theorem dX5_node_36 : decode cX5_node 36 = .ok (.dup, 1) := by decide +kernel
theorem dX5_node_37 : decode cX5_node 37 = .ok (.getfield 158, 3) := by decide +kernel
theorem dX5_node_40 : decode cX5_node 40 = .ok (.iconst 1, 1) := by decide +kernel
theorem dX5_node_41 : decode cX5_node 41 = .ok (.iadd, 1) := by decide +kernel
theorem dX5_node_42 : decode cX5_node 42 = .ok (.putfield 158, 3) := by decide +kernel
theorem dX5_node_45 : decode cX5_node 45 = .ok (.aload_n 0, 1) := by decide +kernel
theorem dX5_node_46 : decode cX5_node 46 = .ok (.invokevirtual 139, 3) := by decide +kernel
theorem dX5_node_49 : decode cX5_node 49 = .ok (.iconst 1, 1) := by decide +kernel
theorem dX5_node_50 : decode cX5_node 50 = .ok (.istore 4, 2) := by decide +kernel
theorem dX5_node_52 : decode cX5_node 52 = .ok (.iload 4, 2) := by decide +kernel
theorem dX5_node_54 : decode cX5_node 54 = .ok (.iconst 3, 1) := by decide +kernel
theorem dX5_node_55 : decode cX5_node 55 = .ok (.if_icmp .ge 32, 3) := by decide +kernel
theorem dX5_node_58 : decode cX5_node 58 = .ok (.aload_n 0, 1) := by decide +kernel
theorem dX5_node_59 : decode cX5_node 59 = .ok (.invokevirtual 161, 3) := by decide +kernel
theorem dX5_node_62 : decode cX5_node 62 = .ok (.ifCond .ne 5, 3) := by decide +kernel
theorem dX5_node_65 : decode cX5_node 65 = .ok (.iconst 0, 1) := by decide +kernel
theorem dX5_node_66 : decode cX5_node 66 = .ok (.ireturn, 1) := by decide +kernel
theorem dX5_node_67 : decode cX5_node 67 = .ok (.aload_n 0, 1) := by decide +kernel
theorem dX5_node_68 : decode cX5_node 68 = .ok (.aload_n 0, 1) := by decide +kernel
theorem dX5_node_69 : decode cX5_node 69 = .ok (.getfield 149, 3) := by decide +kernel
theorem dX5_node_72 : decode cX5_node 72 = .ok (.iconst 3, 1) := by decide +kernel
theorem dX5_node_73 : decode cX5_node 73 = .ok (.iload_n 3, 1) := by decide +kernel
theorem dX5_node_74 : decode cX5_node 74 = .ok (.imul, 1) := by decide +kernel
theorem dX5_node_75 : decode cX5_node 75 = .ok (.iload 4, 2) := by decide +kernel
theorem dX5_node_77 : decode cX5_node 77 = .ok (.iadd, 1) := by decide +kernel
theorem dX5_node_78 : decode cX5_node 78 = .ok (.invokevirtual 165, 3) := by decide +kernel
theorem dX5_node_81 : decode cX5_node 81 = .ok (.iinc 4 1, 3) := by decide +kernel
theorem dX5_node_84 : decode cX5_node 84 = .ok (.goto (-32), 3) := by decide +kernel
theorem dX5_node_87 : decode cX5_node 87 = .ok (.aload_n 0, 1) := by decide +kernel
theorem dX5_node_88 : decode cX5_node 88 = .ok (.dup, 1) := by decide +kernel
theorem dX5_node_89 : decode cX5_node 89 = .ok (.getfield 158, 3) := by decide +kernel
theorem dX5_node_92 : decode cX5_node 92 = .ok (.iconst 1, 1) := by decide +kernel
theorem dX5_node_93 : decode cX5_node 93 = .ok (.isub, 1) := by decide +kernel
theorem dX5_node_94 : decode cX5_node 94 = .ok (.putfield 158, 3) := by decide +kernel
theorem dX5_node_97 : decode cX5_node 97 = .ok (.aload_n 0, 1) := by decide +kernel
theorem dX5_node_98 : decode cX5_node 98 = .ok (.iconst 3, 1) := by decide +kernel
theorem dX5_node_99 : decode cX5_node 99 = .ok (.iload_n 3, 1) := by decide +kernel
theorem dX5_node_100 : decode cX5_node 100 = .ok (.imul, 1) := by decide +kernel
theorem dX5_node_101 : decode cX5_node 101 = .ok (.putfield 149, 3) := by decide +kernel
theorem dX5_node_104 : decode cX5_node 104 = .ok (.aload_n 0, 1) := by decide +kernel
theorem dX5_node_105 : decode cX5_node 105 = .ok (.iload_n 2, 1) := by decide +kernel
theorem dX5_node_106 : decode cX5_node 106 = .ok (.invokevirtual 169, 3) := by decide +kernel
theorem dX5_node_109 : decode cX5_node 109 = .ok (.ireturn, 1) := by decide +kernel
set_option maxRecDepth 20000 in
theorem ggX5_makesNumber_X5_makes : GoodIn wsX5_makesNumber wsX5_makes := goodIn_r _ [5, 6, 11, 12, 13, 14, 15, 16, 17, 18, 19, 20, 21, 22, 23, 24, 25, 26, 27, 28, 29, 30, 31, 32, 33, 34, 35, 36, 37, 38, 39, 40, 41, 42, 43, 44, 45, 46, 47, 48, 49, 50, 51, 52] (by decide +kernel) (by decide +kernel)
set_option maxRecDepth 20000 in
theorem gX5_makesNumber_X5_makes : GoodIn wsX5_makesNumber (wsV RX5 155 RX5 yX5_makes wsX5_makes) := goodIn_app (goodIn_of _ (by decide +kernel)) ggX5_makesNumber_X5_makes
set_option maxRecDepth 20000 in
theorem ggX5_makesNumber_X5_links : GoodIn wsX5_makesNumber wsX5_links := goodIn_r _ [10, 6, 11, 12, 13, 14, 15, 16, 17, 18, 19, 20, 21, 22, 23, 24, 25, 26, 27, 28, 29, 30, 31, 32, 33, 34, 35, 36, 37, 38, 39, 40, 41, 42, 43, 44, 45, 46, 47, 48, 49, 50, 51, 52] (by decide +kernel) (by decide +kernel)
set_option maxRecDepth 20000 in
theorem gX5_makesNumber_X5_links : GoodIn wsX5_makesNumber (wsV RX5 172 RX5 yX5_links wsX5_links) := goodIn_app (goodIn_of _ (by decide +kernel)) ggX5_makesNumber_X5_links
theorem dX5_makesNumber_0 : decode cX5_makesNumber 0 = .ok (.iconst (-1), 1) := by decide +kernel
theorem dX5_makesNumber_1 : decode cX5_makesNumber 1 = .ok (.istore_n 2, 1) := by decide +kernel
theorem dX5_makesNumber_2 : decode cX5_makesNumber 2 = .ok (.iconst (-1), 1) := by decide +kernel
theorem dX5_makesNumber_3 : decode cX5_makesNumber 3 = .ok (.istore_n 3, 1) := by decide +kernel
theorem dX5_makesNumber_4 : decode cX5_makesNumber 4 = .ok (.iload_n 1, 1) := by decide +kernel
theorem dX5_makesNumber_5 : decode cX5_makesNumber 5 = .ok (.istore 4, 2) := by decide +kernel
theorem dX5_makesNumber_7 : decode cX5_makesNumber 7 = .ok (.iload 4, 2) := by decide +kernel
theorem dX5_makesNumber_9 : decode cX5_makesNumber 9 = .ok (.ifCond .le 66, 3) := by decide +kernel
theorem dX5_makesNumber_12 : decode cX5_makesNumber 12 = .ok (.aload_n 0, 1) := by decide +kernel
theorem dX5_makesNumber_13 : decode cX5_makesNumber 13 = .ok (.iconst 1, 1) := by decide +kernel
theorem dX5_makesNumber_14 : decode cX5_makesNumber 14 = .ok (.invokevirtual 155, 3) := by decide +kernel
theorem dX5_makesNumber_17 : decode cX5_makesNumber 17 = .ok (.istore 5, 2) := by decide +kernel
theorem dX5_makesNumber_19 : decode cX5_makesNumber 19 = .ok (.aload_n 0, 1) := by decide +kernel
theorem dX5_makesNumber_20 : decode cX5_makesNumber 20 = .ok (.iconst 0, 1) := by decide +kernel
theorem dX5_makesNumber_21 : decode cX5_makesNumber 21 = .ok (.invokevirtual 155, 3) := by decide +kernel
theorem dX5_makesNumber_24 : decode cX5_makesNumber 24 = .ok (.istore 6, 2) := by decide +kernel
theorem dX5_makesNumber_26 : decode cX5_makesNumber 26 = .ok (.aload_n 0, 1) := by decide +kernel
theorem dX5_makesNumber_27 : decode cX5_makesNumber 27 = .ok (.iconst 3, 1) := by decide +kernel
theorem dX5_makesNumber_28 : decode cX5_makesNumber 28 = .ok (.iload 5, 2) := by decide +kernel
theorem dX5_makesNumber_30 : decode cX5_makesNumber 30 = .ok (.imul, 1) := by decide +kernel
theorem dX5_makesNumber_31 : decode cX5_makesNumber 31 = .ok (.iconst 1, 1) := by decide +kernel
theorem dX5_makesNumber_32 : decode cX5_makesNumber 32 = .ok (.iadd, 1) := by decide +kernel
theorem dX5_makesNumber_33 : decode cX5_makesNumber 33 = .ok (.iconst 3, 1) := by decide +kernel
theorem dX5_makesNumber_34 : decode cX5_makesNumber 34 = .ok (.iload 6, 2) := by decide +kernel
theorem dX5_makesNumber_36 : decode cX5_makesNumber 36 = .ok (.imul, 1) := by decide +kernel
theorem dX5_makesNumber_37 : decode cX5_makesNumber 37 = .ok (.invokevirtual 172, 3) := by decide +kernel
theorem dX5_makesNumber_40 : decode cX5_makesNumber 40 = .ok (.iload_n 2, 1) := by decide +kernel
theorem dX5_makesNumber_41 : decode cX5_makesNumber 41 = .ok (.iconst (-1), 1) := by decide +kernel
theorem dX5_makesNumber_42 : decode cX5_makesNumber 42 = .ok (.if_icmp .ne 11, 3) := by decide +kernel
theorem dX5_makesNumber_45 : decode cX5_makesNumber 45 = .ok (.iconst 3, 1) := by decide +kernel
theorem dX5_makesNumber_46 : decode cX5_makesNumber 46 = .ok (.iload 5, 2) := by decide +kernel
theorem dX5_makesNumber_48 : decode cX5_makesNumber 48 = .ok (.imul, 1) := by decide +kernel
theorem dX5_makesNumber_49 : decode cX5_makesNumber 49 = .ok (.istore_n 3, 1) := by decide +kernel
theorem dX5_makesNumber_50 : decode cX5_makesNumber 50 = .ok (.goto 12, 3) := by decide +kernel
theorem dX5_makesNumber_53 : decode cX5_makesNumber 53 = .ok (.aload_n 0, 1) := by decide +kernel
theorem dX5_makesNumber_54 : decode cX5_makesNumber 54 = .ok (.iload_n 2, 1) := by decide +kernel
theorem dX5_makesNumber_55 : decode cX5_makesNumber 55 = .ok (.iconst 3, 1) := by decide +kernel
theorem dX5_makesNumber_56 : decode cX5_makesNumber 56 = .ok (.iload 5, 2) := by decide +kernel
theorem dX5_makesNumber_58 : decode cX5_makesNumber 58 = .ok (.imul, 1) := by decide +kernel
theorem dX5_makesNumber_59 : decode cX5_makesNumber 59 = .ok (.invokevirtual 172, 3) := by decide +kernel
theorem dX5_makesNumber_62 : decode cX5_makesNumber 62 = .ok (.iconst 3, 1) := by decide +kernel
theorem dX5_makesNumber_63 : decode cX5_makesNumber 63 = .ok (.iload 5, 2) := by decide +kernel
theorem dX5_makesNumber_65 : decode cX5_makesNumber 65 = .ok (.imul, 1) := by decide +kernel
theorem dX5_makesNumber_66 : decode cX5_makesNumber 66 = .ok (.iconst 2, 1) := by decide +kernel
theorem dX5_makesNumber_67 : decode cX5_makesNumber 67 = .ok (.iadd, 1) := by decide +kernel
theorem dX5_makesNumber_68 : decode cX5_makesNumber 68 = .ok (.istore_n 2, 1) := by decide +kernel
theorem dX5_makesNumber_69 : decode cX5_makesNumber 69 = .ok (.iinc 4 (-1), 3) := by decide +kernel
theorem dX5_makesNumber_72 : decode cX5_makesNumber 72 = .ok (.goto (-65), 3) := by decide +kernel
theorem dX5_makesNumber_75 : decode cX5_makesNumber 75 = .ok (.aload_n 0, 1) := by decide +kernel
theorem dX5_makesNumber_76 : decode cX5_makesNumber 76 = .ok (.iconst 0, 1) := by decide +kernel
theorem dX5_makesNumber_77 : decode cX5_makesNumber 77 = .ok (.invokevirtual 155, 3) := by decide +kernel
theorem dX5_makesNumber_80 : decode cX5_makesNumber 80 = .ok (.istore 4, 2) := by decide +kernel
theorem dX5_makesNumber_82 : decode cX5_makesNumber 82 = .ok (.iload_n 2, 1) := by decide +kernel
theorem dX5_makesNumber_83 : decode cX5_makesNumber 83 = .ok (.iconst (-1), 1) := by decide +kernel
theorem dX5_makesNumber_84 : decode cX5_makesNumber 84 = .ok (.if_icmp .ne 8, 3) := by decide +kernel
theorem dX5_makesNumber_87 : decode cX5_makesNumber 87 = .ok (.iconst 3, 1) := by decide +kernel
theorem dX5_makesNumber_88 : decode cX5_makesNumber 88 = .ok (.iload 4, 2) := by decide +kernel
theorem dX5_makesNumber_90 : decode cX5_makesNumber 90 = .ok (.imul, 1) := by decide +kernel
theorem dX5_makesNumber_91 : decode cX5_makesNumber 91 = .ok (.ireturn, 1) := by decide +kernel
theorem dX5_makesNumber_92 : decode cX5_makesNumber 92 = .ok (.aload_n 0, 1) := by decide +kernel
theorem dX5_makesNumber_93 : decode cX5_makesNumber 93 = .ok (.iload_n 2, 1) := by decide +kernel
theorem dX5_makesNumber_94 : decode cX5_makesNumber 94 = .ok (.iconst 3, 1) := by decide +kernel
theorem dX5_makesNumber_95 : decode cX5_makesNumber 95 = .ok (.iload 4, 2) := by decide +kernel
theorem dX5_makesNumber_97 : decode cX5_makesNumber 97 = .ok (.imul, 1) := by decide +kernel
theorem dX5_makesNumber_98 : decode cX5_makesNumber 98 = .ok (.invokevirtual 172, 3) := by decide +kernel
theorem dX5_makesNumber_101 : decode cX5_makesNumber 101 = .ok (.iload_n 3, 1) := by decide +kernel
theorem dX5_makesNumber_102 : decode cX5_makesNumber 102 = .ok (.ireturn, 1) := by decide +kernel
set_option maxRecDepth 20000 in
theorem ggX5_number_X5_go : GoodIn wsX5_number wsX5_go := goodIn_r _ [9, 10, 1, 3, 11, 2, 12, 13, 14, 15, 8, 16, 17, 18, 19, 20, 21, 22, 23, 24, 51, 52, 53, 54, 55, 56, 57, 58, 59, 60, 61, 62, 63, 64, 65, 66, 67, 68, 69, 70, 71, 72, 73, 74, 75, 76, 77, 78, 79, 80, 81, 82, 83, 84, 85, 86, 87, 88, 89, 90, 91, 92] (by decide +kernel) (by decide +kernel)
set_option maxRecDepth 20000 in
theorem gX5_number_X5_go : GoodIn wsX5_number (wsV RX5 139 RX5 yX5_go wsX5_go) := goodIn_app (goodIn_of _ (by decide +kernel)) ggX5_number_X5_go
set_option maxRecDepth 20000 in
theorem ggX5_number_X5_bad : GoodIn wsX5_number wsX5_bad := goodIn_r _ [28, 1, 29, 30, 31, 8, 32, 33, 51, 52, 53, 54, 55, 56, 57, 58, 59, 60, 61, 62, 63, 64, 65, 66, 67, 68, 69, 70, 71, 72, 73, 74, 75, 76, 77, 78, 79, 80, 81, 82, 83, 84, 85, 86, 87, 88, 89, 90, 91, 92] (by decide +kernel) (by decide +kernel)
set_option maxRecDepth 20000 in
theorem gX5_number_X5_bad : GoodIn wsX5_number (wsV RX5 136 RX5 yX5_bad wsX5_bad) := goodIn_app (goodIn_of _ (by decide +kernel)) ggX5_number_X5_bad
set_option maxRecDepth 20000 in
theorem ggX5_number_X5_hasRoom : GoodIn wsX5_number wsX5_hasRoom := goodIn_r _ [37, 38, 51, 52, 53, 54, 55, 56, 57, 58, 59, 60, 61, 62, 63, 64, 65, 66, 67, 68, 69, 70, 71, 72, 73, 74, 75, 76, 77, 78, 79, 80, 81, 82, 83, 84, 85, 86, 87, 88, 89, 90, 91, 92] (by decide +kernel) (by decide +kernel)
set_option maxRecDepth 20000 in
theorem gX5_number_X5_hasRoom : GoodIn wsX5_number (wsV RX5 152 RX5 yX5_hasRoom wsX5_hasRoom) := goodIn_app (goodIn_of _ (by decide +kernel)) ggX5_number_X5_hasRoom
set_option maxRecDepth 20000 in
theorem ggX5_number_X5_badAt : GoodIn wsX5_number wsX5_badAt := goodIn_r _ [32, 33, 51, 52, 53, 54, 55, 56, 57, 58, 59, 60, 61, 62, 63, 64, 65, 66, 67, 68, 69, 70, 71, 72, 73, 74, 75, 76, 77, 78, 79, 80, 81, 82, 83, 84, 85, 86, 87, 88, 89, 90, 91, 92] (by decide +kernel) (by decide +kernel)
set_option maxRecDepth 20000 in
theorem gX5_number_X5_badAt : GoodIn wsX5_number (wsV RX5 129 RX5 yX5_badAt wsX5_badAt) := goodIn_app (goodIn_of _ (by decide +kernel)) ggX5_number_X5_badAt
set_option maxRecDepth 20000 in
theorem ggX5_number_X5_makesNumber : GoodIn wsX5_number wsX5_makesNumber := goodIn_r _ [42, 43, 44, 45, 8, 46, 38, 47, 48, 49, 50, 51, 52, 53, 54, 55, 56, 57, 58, 59, 60, 61, 62, 63, 64, 65, 66, 67, 68, 69, 70, 71, 72, 73, 74, 75, 76, 77, 78, 79, 80, 81, 82, 83, 84, 85, 86, 87, 88, 89, 90, 91, 92] (by decide +kernel) (by decide +kernel)
set_option maxRecDepth 20000 in
theorem gX5_number_X5_makesNumber : GoodIn wsX5_number (wsV RX5 175 RX5 yX5_makesNumber wsX5_makesNumber) := goodIn_app (goodIn_of _ (by decide +kernel)) ggX5_number_X5_makesNumber
theorem dX5_number_0 : decode cX5_number 0 = .ok (.aload_n 0, 1) := by decide +kernel
theorem dX5_number_1 : decode cX5_number 1 = .ok (.getfield 109, 3) := by decide +kernel
theorem dX5_number_4 : decode cX5_number 4 = .ok (.istore_n 1, 1) := by decide +kernel
theorem dX5_number_5 : decode cX5_number 5 = .ok (.aload_n 0, 1) := by decide +kernel
theorem dX5_number_6 : decode cX5_number 6 = .ok (.invokevirtual 139, 3) := by decide +kernel
theorem dX5_number_9 : decode cX5_number 9 = .ok (.aload_n 0, 1) := by decide +kernel
theorem dX5_number_10 : decode cX5_number 10 = .ok (.getfield 118, 3) := by decide +kernel
theorem dX5_number_13 : decode cX5_number 13 = .ok (.iconst 2, 1) := by decide +kernel
theorem dX5_number_14 : decode cX5_number 14 = .ok (.if_icmp .eq 9, 3) := by decide +kernel
theorem dX5_number_17 : decode cX5_number 17 = .ok (.aload_n 0, 1) := by decide +kernel
theorem dX5_number_18 : decode cX5_number 18 = .ok (.iconst 1, 1) := by decide +kernel
theorem dX5_number_19 : decode cX5_number 19 = .ok (.invokevirtual 136, 3) := by decide +kernel
theorem dX5_number_22 : decode cX5_number 22 = .ok (.ireturn, 1) := by decide +kernel
theorem dX5_number_23 : decode cX5_number 23 = .ok (.aload_n 0, 1) := by decide +kernel
theorem dX5_number_24 : decode cX5_number 24 = .ok (.getfield 112, 3) := by decide +kernel
theorem dX5_number_27 : decode cX5_number 27 = .ok (.bipush 20, 2) := by decide +kernel
theorem dX5_number_29 : decode cX5_number 29 = .ok (.if_icmp .le 9, 3) := by decide +kernel
theorem dX5_number_32 : decode cX5_number 32 = .ok (.aload_n 0, 1) := by decide +kernel
theorem dX5_number_33 : decode cX5_number 33 = .ok (.iconst 3, 1) := by decide +kernel
theorem dX5_number_34 : decode cX5_number 34 = .ok (.invokevirtual 136, 3) := by decide +kernel
theorem dX5_number_37 : decode cX5_number 37 = .ok (.ireturn, 1) := by decide +kernel
theorem dX5_number_38 : decode cX5_number 38 = .ok (.aload_n 0, 1) := by decide +kernel
theorem dX5_number_39 : decode cX5_number 39 = .ok (.iconst 2, 1) := by decide +kernel
theorem dX5_number_40 : decode cX5_number 40 = .ok (.aload_n 0, 1) := by decide +kernel
theorem dX5_number_41 : decode cX5_number 41 = .ok (.getfield 112, 3) := by decide +kernel
theorem dX5_number_44 : decode cX5_number 44 = .ok (.imul, 1) := by decide +kernel
theorem dX5_number_45 : decode cX5_number 45 = .ok (.iconst 1, 1) := by decide +kernel
theorem dX5_number_46 : decode cX5_number 46 = .ok (.iadd, 1) := by decide +kernel
theorem dX5_number_47 : decode cX5_number 47 = .ok (.invokevirtual 152, 3) := by decide +kernel
theorem dX5_number_50 : decode cX5_number 50 = .ok (.ifCond .ne 10, 3) := by decide +kernel
theorem dX5_number_53 : decode cX5_number 53 = .ok (.aload_n 0, 1) := by decide +kernel
theorem dX5_number_54 : decode cX5_number 54 = .ok (.iload_n 1, 1) := by decide +kernel
theorem dX5_number_55 : decode cX5_number 55 = .ok (.iconst 5, 1) := by decide +kernel
theorem dX5_number_56 : decode cX5_number 56 = .ok (.invokevirtual 129, 3) := by decide +kernel
theorem dX5_number_59 : decode cX5_number 59 = .ok (.ireturn, 1) := by decide +kernel
theorem dX5_number_60 : decode cX5_number 60 = .ok (.aload_n 0, 1) := by decide +kernel
theorem dX5_number_61 : decode cX5_number 61 = .ok (.aload_n 0, 1) := by decide +kernel
theorem dX5_number_62 : decode cX5_number 62 = .ok (.aload_n 0, 1) := by decide +kernel
theorem dX5_number_63 : decode cX5_number 63 = .ok (.getfield 112, 3) := by decide +kernel
theorem dX5_number_66 : decode cX5_number 66 = .ok (.invokevirtual 175, 3) := by decide +kernel
theorem dX5_number_69 : decode cX5_number 69 = .ok (.putfield 149, 3) := by decide +kernel
theorem dX5_number_72 : decode cX5_number 72 = .ok (.aload_n 0, 1) := by decide +kernel
theorem dX5_number_73 : decode cX5_number 73 = .ok (.invokevirtual 139, 3) := by decide +kernel
theorem dX5_number_76 : decode cX5_number 76 = .ok (.iconst 1, 1) := by decide +kernel
theorem dX5_number_77 : decode cX5_number 77 = .ok (.ireturn, 1) := by decide +kernel
