set_option maxRecDepth 20000 in
theorem ggX0_init_X1_init : GoodIn wsX0_init wsX1_init := goodIn_r _ [19, 20, 2, 3, 21, 22, 23, 67, 68] (by decide +kernel) (by decide +kernel)
set_option maxRecDepth 20000 in
theorem gX0_init_X1_init_n23 : GoodIn wsX0_init (wsX1_init) := ggX0_init_X1_init
set_option maxRecDepth 20000 in
theorem ggX0_init_X0_clear : GoodIn wsX0_init wsX0_clear := goodIn_r _ [28, 5, 17, 7, 11, 29, 30, 15, 31, 13, 14, 16, 32, 33, 34, 35, 36, 37, 38, 39, 40, 41, 42, 43, 44, 45, 46, 47, 10, 48, 22, 23, 49, 50, 51, 52, 53, 54, 55, 56, 57, 58, 59, 60, 61, 62, 63, 64, 65, 66, 67, 68] (by decide +kernel) (by decide +kernel)
set_option maxRecDepth 20000 in
theorem gX0_init_X0_clear : GoodIn wsX0_init (wsV RX0 40 RX0 yX0_clear wsX0_clear) := goodIn_app (goodIn_of _ (by decide +kernel)) ggX0_init_X0_clear
theorem dX0_init_0 : decode cX0_init 0 = .ok (.aload_n 0, 1) := by decide +kernel
theorem dX0_init_1 : decode cX0_init 1 = .ok (.invokespecial 3, 3) := by decide +kernel
theorem dX0_init_4 : decode cX0_init 4 = .ok (.aload_n 0, 1) := by decide +kernel
theorem dX0_init_5 : decode cX0_init 5 = .ok (.sipush 300, 3) := by decide +kernel
theorem dX0_init_8 : decode cX0_init 8 = .ok (.newarray .int, 2) := by decide +kernel
theorem dX0_init_10 : decode cX0_init 10 = .ok (.putfield 9, 3) := by decide +kernel
theorem dX0_init_13 : decode cX0_init 13 = .ok (.aload_n 0, 1) := by decide +kernel
theorem dX0_init_14 : decode cX0_init 14 = .ok (.sipush 300, 3) := by decide +kernel
theorem dX0_init_17 : decode cX0_init 17 = .ok (.newarray .int, 2) := by decide +kernel
theorem dX0_init_19 : decode cX0_init 19 = .ok (.putfield 15, 3) := by decide +kernel
theorem dX0_init_22 : decode cX0_init 22 = .ok (.aload_n 0, 1) := by decide +kernel
theorem dX0_init_23 : decode cX0_init 23 = .ok (.bipush 6, 2) := by decide +kernel
theorem dX0_init_25 : decode cX0_init 25 = .ok (.newarray .int, 2) := by decide +kernel
theorem dX0_init_27 : decode cX0_init 27 = .ok (.putfield 18, 3) := by decide +kernel
theorem dX0_init_30 : decode cX0_init 30 = .ok (.aload_n 0, 1) := by decide +kernel
theorem dX0_init_31 : decode cX0_init 31 = .ok (.new 21, 3) := by decide +kernel
theorem dX0_init_34 : decode cX0_init 34 = .ok (.dup, 1) := by decide +kernel
theorem dX0_init_35 : decode cX0_init 35 = .ok (.invokespecial 23, 3) := by decide +kernel
theorem dX0_init_38 : decode cX0_init 38 = .ok (.putfield 24, 3) := by decide +kernel
theorem dX0_init_41 : decode cX0_init 41 = .ok (.aload_n 0, 1) := by decide +kernel
theorem dX0_init_42 : decode cX0_init 42 = .ok (.new 21, 3) := by decide +kernel
theorem dX0_init_45 : decode cX0_init 45 = .ok (.dup, 1) := by decide +kernel
theorem dX0_init_46 : decode cX0_init 46 = .ok (.invokespecial 23, 3) := by decide +kernel
theorem dX0_init_49 : decode cX0_init 49 = .ok (.putfield 28, 3) := by decide +kernel
theorem dX0_init_52 : decode cX0_init 52 = .ok (.aload_n 0, 1) := by decide +kernel
theorem dX0_init_53 : decode cX0_init 53 = .ok (.sipush 1016, 3) := by decide +kernel
theorem dX0_init_56 : decode cX0_init 56 = .ok (.iconst 0, 1) := by decide +kernel
theorem dX0_init_57 : decode cX0_init 57 = .ok (.iload_n 1, 1) := by decide +kernel
theorem dX0_init_58 : decode cX0_init 58 = .ok (.invokestatic 31, 3) := by decide +kernel
theorem dX0_init_61 : decode cX0_init 61 = .ok (.iadd, 1) := by decide +kernel
theorem dX0_init_62 : decode cX0_init 62 = .ok (.newarray .int, 2) := by decide +kernel
theorem dX0_init_64 : decode cX0_init 64 = .ok (.putfield 37, 3) := by decide +kernel
theorem dX0_init_67 : decode cX0_init 67 = .ok (.aload_n 0, 1) := by decide +kernel
theorem dX0_init_68 : decode cX0_init 68 = .ok (.sipush 200, 3) := by decide +kernel
theorem dX0_init_71 : decode cX0_init 71 = .ok (.invokevirtual 40, 3) := by decide +kernel
theorem dX0_init_74 : decode cX0_init 74 = .ok (.return_, 1) := by decide +kernel
set_option maxRecDepth 20000 in
theorem ggX0_clear_J7_fill_53178 : GoodIn wsX0_clear wsJ7_fill_53178 := goodIn_r _ [24] (by decide +kernel) (by decide +kernel)
set_option maxRecDepth 20000 in
theorem gX0_clear_J7_fill_53178 : GoodIn wsX0_clear (va_wsS RX0 44 yJ7_fill_53178 wsJ7_fill_53178) := goodIn_app (goodIn_of _ (by decide +kernel)) ggX0_clear_J7_fill_53178
set_option maxRecDepth 20000 in
theorem ggX0_clear_X1_clear : GoodIn wsX0_clear wsX1_clear := goodIn_r _ [29, 30, 31, 32, 33, 23, 34, 50, 51] (by decide +kernel) (by decide +kernel)
set_option maxRecDepth 20000 in
theorem gX0_clear_X1_clear : GoodIn wsX0_clear (wsV RX0 50 RX1 yX1_clear wsX1_clear) := goodIn_app (goodIn_of _ (by decide +kernel)) ggX0_clear_X1_clear
theorem dX0_clear_0 : decode cX0_clear 0 = .ok (.aload_n 0, 1) := by decide +kernel
theorem dX0_clear_1 : decode cX0_clear 1 = .ok (.getfield 9, 3) := by decide +kernel
theorem dX0_clear_4 : decode cX0_clear 4 = .ok (.iconst (-1), 1) := by decide +kernel
theorem dX0_clear_5 : decode cX0_clear 5 = .ok (.invokestatic 44, 3) := by decide +kernel
theorem dX0_clear_8 : decode cX0_clear 8 = .ok (.aload_n 0, 1) := by decide +kernel
theorem dX0_clear_9 : decode cX0_clear 9 = .ok (.getfield 37, 3) := by decide +kernel
theorem dX0_clear_12 : decode cX0_clear 12 = .ok (.iconst (-1), 1) := by decide +kernel
theorem dX0_clear_13 : decode cX0_clear 13 = .ok (.invokestatic 44, 3) := by decide +kernel
theorem dX0_clear_16 : decode cX0_clear 16 = .ok (.aload_n 0, 1) := by decide +kernel
theorem dX0_clear_17 : decode cX0_clear 17 = .ok (.getfield 18, 3) := by decide +kernel
theorem dX0_clear_20 : decode cX0_clear 20 = .ok (.iconst 0, 1) := by decide +kernel
theorem dX0_clear_21 : decode cX0_clear 21 = .ok (.invokestatic 44, 3) := by decide +kernel
theorem dX0_clear_24 : decode cX0_clear 24 = .ok (.aload_n 0, 1) := by decide +kernel
theorem dX0_clear_25 : decode cX0_clear 25 = .ok (.getfield 24, 3) := by decide +kernel
theorem dX0_clear_28 : decode cX0_clear 28 = .ok (.invokevirtual 50, 3) := by decide +kernel
theorem dX0_clear_31 : decode cX0_clear 31 = .ok (.aload_n 0, 1) := by decide +kernel
theorem dX0_clear_32 : decode cX0_clear 32 = .ok (.iconst 0, 1) := by decide +kernel
theorem dX0_clear_33 : decode cX0_clear 33 = .ok (.iload_n 1, 1) := by decide +kernel
theorem dX0_clear_34 : decode cX0_clear 34 = .ok (.sipush 300, 3) := by decide +kernel
theorem dX0_clear_37 : decode cX0_clear 37 = .ok (.invokestatic 52, 3) := by decide +kernel
theorem dX0_clear_40 : decode cX0_clear 40 = .ok (.invokestatic 31, 3) := by decide +kernel
theorem dX0_clear_43 : decode cX0_clear 43 = .ok (.putfield 55, 3) := by decide +kernel
theorem dX0_clear_46 : decode cX0_clear 46 = .ok (.aload_n 0, 1) := by decide +kernel
theorem dX0_clear_47 : decode cX0_clear 47 = .ok (.iconst 0, 1) := by decide +kernel
theorem dX0_clear_48 : decode cX0_clear 48 = .ok (.putfield 59, 3) := by decide +kernel
theorem dX0_clear_51 : decode cX0_clear 51 = .ok (.aload_n 0, 1) := by decide +kernel
theorem dX0_clear_52 : decode cX0_clear 52 = .ok (.iconst 0, 1) := by decide +kernel
theorem dX0_clear_53 : decode cX0_clear 53 = .ok (.putfield 62, 3) := by decide +kernel
theorem dX0_clear_56 : decode cX0_clear 56 = .ok (.aload_n 0, 1) := by decide +kernel
theorem dX0_clear_57 : decode cX0_clear 57 = .ok (.iconst 0, 1) := by decide +kernel
theorem dX0_clear_58 : decode cX0_clear 58 = .ok (.putfield 65, 3) := by decide +kernel
theorem dX0_clear_61 : decode cX0_clear 61 = .ok (.aload_n 0, 1) := by decide +kernel
theorem dX0_clear_62 : decode cX0_clear 62 = .ok (.iconst 0, 1) := by decide +kernel
theorem dX0_clear_63 : decode cX0_clear 63 = .ok (.putfield 68, 3) := by decide +kernel
theorem dX0_clear_66 : decode cX0_clear 66 = .ok (.aload_n 0, 1) := by decide +kernel
theorem dX0_clear_67 : decode cX0_clear 67 = .ok (.iconst 0, 1) := by decide +kernel
theorem dX0_clear_68 : decode cX0_clear 68 = .ok (.putfield 71, 3) := by decide +kernel
theorem dX0_clear_71 : decode cX0_clear 71 = .ok (.aload_n 0, 1) := by decide +kernel
theorem dX0_clear_72 : decode cX0_clear 72 = .ok (.iconst 0, 1) := by decide +kernel
theorem dX0_clear_73 : decode cX0_clear 73 = .ok (.putfield 74, 3) := by decide +kernel
theorem dX0_clear_76 : decode cX0_clear 76 = .ok (.aload_n 0, 1) := by decide +kernel
theorem dX0_clear_77 : decode cX0_clear 77 = .ok (.iconst 0, 1) := by decide +kernel
theorem dX0_clear_78 : decode cX0_clear 78 = .ok (.putfield 77, 3) := by decide +kernel
theorem dX0_clear_81 : decode cX0_clear 81 = .ok (.aload_n 0, 1) := by decide +kernel
theorem dX0_clear_82 : decode cX0_clear 82 = .ok (.iconst 0, 1) := by decide +kernel
theorem dX0_clear_83 : decode cX0_clear 83 = .ok (.putfield 80, 3) := by decide +kernel
theorem dX0_clear_86 : decode cX0_clear 86 = .ok (.return_, 1) := by decide +kernel
set_option maxRecDepth 20000 in
theorem ggX0_become_X1_become : GoodIn wsX0_become wsX1_become := goodIn_r _ [22, 23, 24, 3, 4, 5, 25, 41, 42] (by decide +kernel) (by decide +kernel)
set_option maxRecDepth 20000 in
theorem gX0_become_X1_become : GoodIn wsX0_become (wsV RX0 89 RX1 yX1_become wsX1_become) := goodIn_app (goodIn_of _ (by decide +kernel)) ggX0_become_X1_become
theorem dX0_become_0 : decode cX0_become 0 = .ok (.aload_n 1, 1) := by decide +kernel
theorem dX0_become_1 : decode cX0_become 1 = .ok (.getfield 9, 3) := by decide +kernel
theorem dX0_become_4 : decode cX0_become 4 = .ok (.iconst 0, 1) := by decide +kernel
theorem dX0_become_5 : decode cX0_become 5 = .ok (.aload_n 0, 1) := by decide +kernel
theorem dX0_become_6 : decode cX0_become 6 = .ok (.getfield 9, 3) := by decide +kernel
theorem dX0_become_9 : decode cX0_become 9 = .ok (.iconst 0, 1) := by decide +kernel
theorem dX0_become_10 : decode cX0_become 10 = .ok (.sipush 300, 3) := by decide +kernel
theorem dX0_become_13 : decode cX0_become 13 = .ok (.invokestatic 83, 3) := by decide +kernel
theorem dX0_become_16 : decode cX0_become 16 = .ok (.aload_n 1, 1) := by decide +kernel
theorem dX0_become_17 : decode cX0_become 17 = .ok (.getfield 37, 3) := by decide +kernel
theorem dX0_become_20 : decode cX0_become 20 = .ok (.iconst 0, 1) := by decide +kernel
theorem dX0_become_21 : decode cX0_become 21 = .ok (.aload_n 0, 1) := by decide +kernel
theorem dX0_become_22 : decode cX0_become 22 = .ok (.getfield 37, 3) := by decide +kernel
theorem dX0_become_25 : decode cX0_become 25 = .ok (.iconst 0, 1) := by decide +kernel
theorem dX0_become_26 : decode cX0_become 26 = .ok (.sipush 1016, 3) := by decide +kernel
theorem dX0_become_29 : decode cX0_become 29 = .ok (.invokestatic 83, 3) := by decide +kernel
theorem dX0_become_32 : decode cX0_become 32 = .ok (.aload_n 1, 1) := by decide +kernel
theorem dX0_become_33 : decode cX0_become 33 = .ok (.getfield 15, 3) := by decide +kernel
theorem dX0_become_36 : decode cX0_become 36 = .ok (.iconst 0, 1) := by decide +kernel
theorem dX0_become_37 : decode cX0_become 37 = .ok (.aload_n 0, 1) := by decide +kernel
theorem dX0_become_38 : decode cX0_become 38 = .ok (.getfield 15, 3) := by decide +kernel
theorem dX0_become_41 : decode cX0_become 41 = .ok (.iconst 0, 1) := by decide +kernel
theorem dX0_become_42 : decode cX0_become 42 = .ok (.sipush 300, 3) := by decide +kernel
theorem dX0_become_45 : decode cX0_become 45 = .ok (.invokestatic 83, 3) := by decide +kernel
theorem dX0_become_48 : decode cX0_become 48 = .ok (.aload_n 1, 1) := by decide +kernel
theorem dX0_become_49 : decode cX0_become 49 = .ok (.getfield 18, 3) := by decide +kernel
theorem dX0_become_52 : decode cX0_become 52 = .ok (.iconst 0, 1) := by decide +kernel
theorem dX0_become_53 : decode cX0_become 53 = .ok (.aload_n 0, 1) := by decide +kernel
theorem dX0_become_54 : decode cX0_become 54 = .ok (.getfield 18, 3) := by decide +kernel
theorem dX0_become_57 : decode cX0_become 57 = .ok (.iconst 0, 1) := by decide +kernel
theorem dX0_become_58 : decode cX0_become 58 = .ok (.bipush 6, 2) := by decide +kernel
theorem dX0_become_60 : decode cX0_become 60 = .ok (.invokestatic 83, 3) := by decide +kernel
theorem dX0_become_63 : decode cX0_become 63 = .ok (.aload_n 0, 1) := by decide +kernel
theorem dX0_become_64 : decode cX0_become 64 = .ok (.getfield 24, 3) := by decide +kernel
theorem dX0_become_67 : decode cX0_become 67 = .ok (.aload_n 1, 1) := by decide +kernel
theorem dX0_become_68 : decode cX0_become 68 = .ok (.getfield 24, 3) := by decide +kernel
theorem dX0_become_71 : decode cX0_become 71 = .ok (.invokevirtual 89, 3) := by decide +kernel
theorem dX0_become_74 : decode cX0_become 74 = .ok (.aload_n 0, 1) := by decide +kernel
theorem dX0_become_75 : decode cX0_become 75 = .ok (.aload_n 1, 1) := by decide +kernel
theorem dX0_become_76 : decode cX0_become 76 = .ok (.getfield 55, 3) := by decide +kernel
theorem dX0_become_79 : decode cX0_become 79 = .ok (.putfield 55, 3) := by decide +kernel
theorem dX0_become_82 : decode cX0_become 82 = .ok (.aload_n 0, 1) := by decide +kernel
theorem dX0_become_83 : decode cX0_become 83 = .ok (.aload_n 1, 1) := by decide +kernel
theorem dX0_become_84 : decode cX0_become 84 = .ok (.getfield 59, 3) := by decide +kernel
theorem dX0_become_87 : decode cX0_become 87 = .ok (.putfield 59, 3) := by decide +kernel
theorem dX0_become_90 : decode cX0_become 90 = .ok (.aload_n 0, 1) := by decide +kernel
theorem dX0_become_91 : decode cX0_become 91 = .ok (.aload_n 1, 1) := by decide +kernel
theorem dX0_become_92 : decode cX0_become 92 = .ok (.getfield 62, 3) := by decide +kernel
theorem dX0_become_95 : decode cX0_become 95 = .ok (.putfield 62, 3) := by decide +kernel
theorem dX0_become_98 : decode cX0_become 98 = .ok (.aload_n 0, 1) := by decide +kernel
theorem dX0_become_99 : decode cX0_become 99 = .ok (.aload_n 1, 1) := by decide +kernel
theorem dX0_become_100 : decode cX0_become 100 = .ok (.getfield 65, 3) := by decide +kernel
theorem dX0_become_103 : decode cX0_become 103 = .ok (.putfield 65, 3) := by decide +kernel
theorem dX0_become_106 : decode cX0_become 106 = .ok (.aload_n 0, 1) := by decide +kernel
theorem dX0_become_107 : decode cX0_become 107 = .ok (.aload_n 1, 1) := by decide +kernel
theorem dX0_become_108 : decode cX0_become 108 = .ok (.getfield 68, 3) := by decide +kernel
theorem dX0_become_111 : decode cX0_become 111 = .ok (.putfield 68, 3) := by decide +kernel
theorem dX0_become_114 : decode cX0_become 114 = .ok (.aload_n 0, 1) := by decide +kernel
theorem dX0_become_115 : decode cX0_become 115 = .ok (.aload_n 1, 1) := by decide +kernel
theorem dX0_become_116 : decode cX0_become 116 = .ok (.getfield 71, 3) := by decide +kernel
theorem dX0_become_119 : decode cX0_become 119 = .ok (.putfield 71, 3) := by decide +kernel
theorem dX0_become_122 : decode cX0_become 122 = .ok (.aload_n 0, 1) := by decide +kernel
theorem dX0_become_123 : decode cX0_become 123 = .ok (.aload_n 1, 1) := by decide +kernel
theorem dX0_become_124 : decode cX0_become 124 = .ok (.getfield 74, 3) := by decide +kernel
theorem dX0_become_127 : decode cX0_become 127 = .ok (.putfield 74, 3) := by decide +kernel
theorem dX0_become_130 : decode cX0_become 130 = .ok (.aload_n 0, 1) := by decide +kernel
theorem dX0_become_131 : decode cX0_become 131 = .ok (.aload_n 1, 1) := by decide +kernel
theorem dX0_become_132 : decode cX0_become 132 = .ok (.getfield 77, 3) := by decide +kernel
theorem dX0_become_135 : decode cX0_become 135 = .ok (.putfield 77, 3) := by decide +kernel
theorem dX0_become_138 : decode cX0_become 138 = .ok (.return_, 1) := by decide +kernel
theorem dX0_kindOf_0 : decode cX0_kindOf 0 = .ok (.iload_n 1, 1) := by decide +kernel
theorem dX0_kindOf_1 : decode cX0_kindOf 1 = .ok (.ifCond .lt 19, 3) := by decide +kernel
theorem dX0_kindOf_4 : decode cX0_kindOf 4 = .ok (.iload_n 1, 1) := by decide +kernel
theorem dX0_kindOf_5 : decode cX0_kindOf 5 = .ok (.sipush 300, 3) := by decide +kernel
theorem dX0_kindOf_8 : decode cX0_kindOf 8 = .ok (.if_icmp .ge 12, 3) := by decide +kernel
theorem dX0_kindOf_11 : decode cX0_kindOf 11 = .ok (.aload_n 0, 1) := by decide +kernel
theorem dX0_kindOf_12 : decode cX0_kindOf 12 = .ok (.getfield 9, 3) := by decide +kernel
theorem dX0_kindOf_15 : decode cX0_kindOf 15 = .ok (.iload_n 1, 1) := by decide +kernel
theorem dX0_kindOf_16 : decode cX0_kindOf 16 = .ok (.iaload, 1) := by decide +kernel
theorem dX0_kindOf_17 : decode cX0_kindOf 17 = .ok (.goto 4, 3) := by decide +kernel
theorem dX0_kindOf_20 : decode cX0_kindOf 20 = .ok (.iconst (-1), 1) := by decide +kernel
theorem dX0_kindOf_21 : decode cX0_kindOf 21 = .ok (.ireturn, 1) := by decide +kernel
theorem dX0_at_0 : decode cX0_at 0 = .ok (.iload_n 1, 1) := by decide +kernel
theorem dX0_at_1 : decode cX0_at 1 = .ok (.ifCond .lt 21, 3) := by decide +kernel
theorem dX0_at_4 : decode cX0_at 4 = .ok (.iload_n 1, 1) := by decide +kernel
theorem dX0_at_5 : decode cX0_at 5 = .ok (.aload_n 0, 1) := by decide +kernel
theorem dX0_at_6 : decode cX0_at 6 = .ok (.getfield 37, 3) := by decide +kernel
theorem dX0_at_9 : decode cX0_at 9 = .ok (.arraylength, 1) := by decide +kernel
theorem dX0_at_10 : decode cX0_at 10 = .ok (.if_icmp .ge 12, 3) := by decide +kernel
theorem dX0_at_13 : decode cX0_at 13 = .ok (.aload_n 0, 1) := by decide +kernel
theorem dX0_at_14 : decode cX0_at 14 = .ok (.getfield 37, 3) := by decide +kernel
theorem dX0_at_17 : decode cX0_at 17 = .ok (.iload_n 1, 1) := by decide +kernel
theorem dX0_at_18 : decode cX0_at 18 = .ok (.iaload, 1) := by decide +kernel
theorem dX0_at_19 : decode cX0_at 19 = .ok (.goto 4, 3) := by decide +kernel
theorem dX0_at_22 : decode cX0_at 22 = .ok (.iconst (-1), 1) := by decide +kernel
theorem dX0_at_23 : decode cX0_at 23 = .ok (.ireturn, 1) := by decide +kernel
theorem dX0_isHead_0 : decode cX0_isHead 0 = .ok (.iload_n 0, 1) := by decide +kernel
theorem dX0_isHead_1 : decode cX0_isHead 1 = .ok (.ifCond .lt 20, 3) := by decide +kernel
theorem dX0_isHead_4 : decode cX0_isHead 4 = .ok (.iload_n 0, 1) := by decide +kernel
theorem dX0_isHead_5 : decode cX0_isHead 5 = .ok (.sipush 900, 3) := by decide +kernel
theorem dX0_isHead_8 : decode cX0_isHead 8 = .ok (.if_icmp .ge 13, 3) := by decide +kernel
theorem dX0_isHead_11 : decode cX0_isHead 11 = .ok (.iload_n 0, 1) := by decide +kernel
theorem dX0_isHead_12 : decode cX0_isHead 12 = .ok (.iconst 3, 1) := by decide +kernel
theorem dX0_isHead_13 : decode cX0_isHead 13 = .ok (.irem, 1) := by decide +kernel
theorem dX0_isHead_14 : decode cX0_isHead 14 = .ok (.ifCond .ne 7, 3) := by decide +kernel
theorem dX0_isHead_17 : decode cX0_isHead 17 = .ok (.iconst 1, 1) := by decide +kernel
theorem dX0_isHead_18 : decode cX0_isHead 18 = .ok (.goto 4, 3) := by decide +kernel
theorem dX0_isHead_21 : decode cX0_isHead 21 = .ok (.iconst 0, 1) := by decide +kernel
theorem dX0_isHead_22 : decode cX0_isHead 22 = .ok (.ireturn, 1) := by decide +kernel
theorem dX0_tie_0 : decode cX0_tie 0 = .ok (.iload_n 1, 1) := by decide +kernel
theorem dX0_tie_1 : decode cX0_tie 1 = .ok (.ifCond .lt 39, 3) := by decide +kernel
theorem dX0_tie_4 : decode cX0_tie 4 = .ok (.iload_n 2, 1) := by decide +kernel
theorem dX0_tie_5 : decode cX0_tie 5 = .ok (.ifCond .lt 35, 3) := by decide +kernel
theorem dX0_tie_8 : decode cX0_tie 8 = .ok (.iload_n 1, 1) := by decide +kernel
theorem dX0_tie_9 : decode cX0_tie 9 = .ok (.aload_n 0, 1) := by decide +kernel
theorem dX0_tie_10 : decode cX0_tie 10 = .ok (.getfield 37, 3) := by decide +kernel
theorem dX0_tie_13 : decode cX0_tie 13 = .ok (.arraylength, 1) := by decide +kernel
theorem dX0_tie_14 : decode cX0_tie 14 = .ok (.if_icmp .ge 26, 3) := by decide +kernel
theorem dX0_tie_17 : decode cX0_tie 17 = .ok (.iload_n 2, 1) := by decide +kernel
theorem dX0_tie_18 : decode cX0_tie 18 = .ok (.aload_n 0, 1) := by decide +kernel
theorem dX0_tie_19 : decode cX0_tie 19 = .ok (.getfield 37, 3) := by decide +kernel
theorem dX0_tie_22 : decode cX0_tie 22 = .ok (.arraylength, 1) := by decide +kernel
theorem dX0_tie_23 : decode cX0_tie 23 = .ok (.if_icmp .ge 17, 3) := by decide +kernel
theorem dX0_tie_26 : decode cX0_tie 26 = .ok (.aload_n 0, 1) := by decide +kernel
theorem dX0_tie_27 : decode cX0_tie 27 = .ok (.getfield 37, 3) := by decide +kernel
theorem dX0_tie_30 : decode cX0_tie 30 = .ok (.iload_n 1, 1) := by decide +kernel
theorem dX0_tie_31 : decode cX0_tie 31 = .ok (.iload_n 2, 1) := by decide +kernel
theorem dX0_tie_32 : decode cX0_tie 32 = .ok (.iastore, 1) := by decide +kernel
theorem dX0_tie_33 : decode cX0_tie 33 = .ok (.aload_n 0, 1) := by decide +kernel
theorem dX0_tie_34 : decode cX0_tie 34 = .ok (.getfield 37, 3) := by decide +kernel
theorem dX0_tie_37 : decode cX0_tie 37 = .ok (.iload_n 2, 1) := by decide +kernel
theorem dX0_tie_38 : decode cX0_tie 38 = .ok (.iload_n 1, 1) := by decide +kernel
theorem dX0_tie_39 : decode cX0_tie 39 = .ok (.iastore, 1) := by decide +kernel
theorem dX0_tie_40 : decode cX0_tie 40 = .ok (.return_, 1) := by decide +kernel
set_option maxRecDepth 20000 in
theorem ggX0_connect_X0_tie : GoodIn wsX0_connect wsX0_tie := goodIn_r _ [11, 12, 23, 24, 25, 26, 27, 28, 29, 30, 31, 32, 33, 34, 35, 36, 37] (by decide +kernel) (by decide +kernel)
set_option maxRecDepth 20000 in
theorem gX0_connect_X0_tie : GoodIn wsX0_connect (wsV RX0 93 RX0 yX0_tie wsX0_tie) := goodIn_app (goodIn_of _ (by decide +kernel)) ggX0_connect_X0_tie
set_option maxRecDepth 20000 in
theorem ggX0_connect_X0_isHead : GoodIn wsX0_connect wsX0_isHead := goodIn_r _ [15] (by decide +kernel) (by decide +kernel)
set_option maxRecDepth 20000 in
theorem gX0_connect_X0_isHead : GoodIn wsX0_connect (va_wsS RX0 97 yX0_isHead wsX0_isHead) := goodIn_app (goodIn_of _ (by decide +kernel)) ggX0_connect_X0_isHead
set_option maxRecDepth 20000 in
theorem ggX0_connect_X1_add : GoodIn wsX0_connect wsX1_add := goodIn_r _ [20, 21, 22, 38, 39] (by decide +kernel) (by decide +kernel)
set_option maxRecDepth 20000 in
theorem gX0_connect_X1_add : GoodIn wsX0_connect (wsV RX0 101 RX1 yX1_add wsX1_add) := goodIn_app (goodIn_of _ (by decide +kernel)) ggX0_connect_X1_add
theorem dX0_connect_0 : decode cX0_connect 0 = .ok (.aload_n 0, 1) := by decide +kernel
theorem dX0_connect_1 : decode cX0_connect 1 = .ok (.iload_n 1, 1) := by decide +kernel
theorem dX0_connect_2 : decode cX0_connect 2 = .ok (.iload_n 2, 1) := by decide +kernel
theorem dX0_connect_3 : decode cX0_connect 3 = .ok (.invokevirtual 93, 3) := by decide +kernel
theorem dX0_connect_6 : decode cX0_connect 6 = .ok (.iload_n 1, 1) := by decide +kernel
theorem dX0_connect_7 : decode cX0_connect 7 = .ok (.invokestatic 97, 3) := by decide +kernel
theorem dX0_connect_10 : decode cX0_connect 10 = .ok (.ifCond .eq 50, 3) := by decide +kernel
theorem dX0_connect_13 : decode cX0_connect 13 = .ok (.iload_n 2, 1) := by decide +kernel
theorem dX0_connect_14 : decode cX0_connect 14 = .ok (.invokestatic 97, 3) := by decide +kernel
theorem dX0_connect_17 : decode cX0_connect 17 = .ok (.ifCond .eq 43, 3) := by decide +kernel
theorem dX0_connect_20 : decode cX0_connect 20 = .ok (.aload_n 0, 1) := by decide +kernel
theorem dX0_connect_21 : decode cX0_connect 21 = .ok (.getfield 24, 3) := by decide +kernel
theorem dX0_connect_24 : decode cX0_connect 24 = .ok (.iload_n 1, 1) := by decide +kernel
theorem dX0_connect_25 : decode cX0_connect 25 = .ok (.iload_n 2, 1) := by decide +kernel
theorem dX0_connect_26 : decode cX0_connect 26 = .ok (.invokestatic 52, 3) := by decide +kernel
theorem dX0_connect_29 : decode cX0_connect 29 = .ok (.iconst 3, 1) := by decide +kernel
theorem dX0_connect_30 : decode cX0_connect 30 = .ok (.idiv, 1) := by decide +kernel
theorem dX0_connect_31 : decode cX0_connect 31 = .ok (.aload_n 0, 1) := by decide +kernel
theorem dX0_connect_32 : decode cX0_connect 32 = .ok (.getfield 9, 3) := by decide +kernel
theorem dX0_connect_35 : decode cX0_connect 35 = .ok (.iload_n 1, 1) := by decide +kernel
theorem dX0_connect_36 : decode cX0_connect 36 = .ok (.iconst 3, 1) := by decide +kernel
theorem dX0_connect_37 : decode cX0_connect 37 = .ok (.idiv, 1) := by decide +kernel
theorem dX0_connect_38 : decode cX0_connect 38 = .ok (.iaload, 1) := by decide +kernel
theorem dX0_connect_39 : decode cX0_connect 39 = .ok (.aload_n 0, 1) := by decide +kernel
theorem dX0_connect_40 : decode cX0_connect 40 = .ok (.getfield 9, 3) := by decide +kernel
theorem dX0_connect_43 : decode cX0_connect 43 = .ok (.iload_n 2, 1) := by decide +kernel
theorem dX0_connect_44 : decode cX0_connect 44 = .ok (.iconst 3, 1) := by decide +kernel
theorem dX0_connect_45 : decode cX0_connect 45 = .ok (.idiv, 1) := by decide +kernel
theorem dX0_connect_46 : decode cX0_connect 46 = .ok (.iaload, 1) := by decide +kernel
theorem dX0_connect_47 : decode cX0_connect 47 = .ok (.iadd, 1) := by decide +kernel
theorem dX0_connect_48 : decode cX0_connect 48 = .ok (.iconst 3, 1) := by decide +kernel
theorem dX0_connect_49 : decode cX0_connect 49 = .ok (.if_icmp .ne 7, 3) := by decide +kernel
theorem dX0_connect_52 : decode cX0_connect 52 = .ok (.iconst 1, 1) := by decide +kernel
theorem dX0_connect_53 : decode cX0_connect 53 = .ok (.goto 4, 3) := by decide +kernel
theorem dX0_connect_56 : decode cX0_connect 56 = .ok (.iconst 0, 1) := by decide +kernel
theorem dX0_connect_57 : decode cX0_connect 57 = .ok (.invokevirtual 101, 3) := by decide +kernel
theorem dX0_connect_60 : decode cX0_connect 60 = .ok (.return_, 1) := by decide +kernel
set_option maxRecDepth 20000 in
theorem ggX0_move_X0_at : GoodIn wsX0_move wsX0_at := goodIn_r _ [5, 6, 31, 32, 33, 34, 35, 36, 37, 38, 39, 40, 41, 42, 43, 44, 45] (by decide +kernel) (by decide +kernel)
set_option maxRecDepth 20000 in
theorem gX0_move_X0_at : GoodIn wsX0_move (wsV RX0 105 RX0 yX0_at wsX0_at) := goodIn_app (goodIn_of _ (by decide +kernel)) ggX0_move_X0_at
set_option maxRecDepth 20000 in
theorem ggX0_move_X0_connect : GoodIn wsX0_move wsX0_connect := goodIn_r _ [10, 11, 12, 13, 14, 15, 16, 17, 18, 19, 4, 20, 6, 21, 22, 23, 24, 25, 26, 27, 28, 29, 30, 31, 32, 33, 34, 35, 36, 37, 38, 39, 40, 41, 42, 43, 44, 45, 46, 47] (by decide +kernel) (by decide +kernel)
set_option maxRecDepth 20000 in
theorem gX0_move_X0_connect : GoodIn wsX0_move (wsV RX0 109 RX0 yX0_connect wsX0_connect) := goodIn_app (goodIn_of _ (by decide +kernel)) ggX0_move_X0_connect
theorem dX0_move_0 : decode cX0_move 0 = .ok (.aload_n 0, 1) := by decide +kernel
theorem dX0_move_1 : decode cX0_move 1 = .ok (.aload_n 0, 1) := by decide +kernel
theorem dX0_move_2 : decode cX0_move 2 = .ok (.iload_n 1, 1) := by decide +kernel
theorem dX0_move_3 : decode cX0_move 3 = .ok (.invokevirtual 105, 3) := by decide +kernel
theorem dX0_move_6 : decode cX0_move 6 = .ok (.iload_n 2, 1) := by decide +kernel
theorem dX0_move_7 : decode cX0_move 7 = .ok (.invokevirtual 109, 3) := by decide +kernel
theorem dX0_move_10 : decode cX0_move 10 = .ok (.return_, 1) := by decide +kernel
set_option maxRecDepth 20000 in
theorem ggX0_splice_X0_at : GoodIn wsX0_splice wsX0_at := goodIn_r _ [6, 7, 32, 33, 34, 35, 36, 37, 38, 39, 40, 41, 42, 43, 44, 45, 46] (by decide +kernel) (by decide +kernel)
set_option maxRecDepth 20000 in
theorem gX0_splice_X0_at : GoodIn wsX0_splice (wsV RX0 105 RX0 yX0_at wsX0_at) := goodIn_app (goodIn_of _ (by decide +kernel)) ggX0_splice_X0_at
set_option maxRecDepth 20000 in
theorem ggX0_splice_X0_connect : GoodIn wsX0_splice wsX0_connect := goodIn_r _ [11, 12, 13, 14, 15, 16, 17, 18, 19, 20, 5, 21, 7, 22, 23, 24, 25, 26, 27, 28, 29, 30, 31, 32, 33, 34, 35, 36, 37, 38, 39, 40, 41, 42, 43, 44, 45, 46, 47, 48] (by decide +kernel) (by decide +kernel)
set_option maxRecDepth 20000 in
theorem gX0_splice_X0_connect : GoodIn wsX0_splice (wsV RX0 109 RX0 yX0_connect wsX0_connect) := goodIn_app (goodIn_of _ (by decide +kernel)) ggX0_splice_X0_connect
theorem dX0_splice_0 : decode cX0_splice 0 = .ok (.aload_n 0, 1) := by decide +kernel
theorem dX0_splice_1 : decode cX0_splice 1 = .ok (.iload_n 1, 1) := by decide +kernel
theorem dX0_splice_2 : decode cX0_splice 2 = .ok (.invokevirtual 105, 3) := by decide +kernel
theorem dX0_splice_5 : decode cX0_splice 5 = .ok (.iload_n 2, 1) := by decide +kernel
theorem dX0_splice_6 : decode cX0_splice 6 = .ok (.if_icmp .ne 16, 3) := by decide +kernel
theorem dX0_splice_9 : decode cX0_splice 9 = .ok (.aload_n 0, 1) := by decide +kernel
theorem dX0_splice_10 : decode cX0_splice 10 = .ok (.dup, 1) := by decide +kernel
theorem dX0_splice_11 : decode cX0_splice 11 = .ok (.getfield 77, 3) := by decide +kernel
theorem dX0_splice_14 : decode cX0_splice 14 = .ok (.iconst 1, 1) := by decide +kernel
theorem dX0_splice_15 : decode cX0_splice 15 = .ok (.iadd, 1) := by decide +kernel
theorem dX0_splice_16 : decode cX0_splice 16 = .ok (.putfield 77, 3) := by decide +kernel
theorem dX0_splice_19 : decode cX0_splice 19 = .ok (.goto 17, 3) := by decide +kernel
theorem dX0_splice_22 : decode cX0_splice 22 = .ok (.aload_n 0, 1) := by decide +kernel
theorem dX0_splice_23 : decode cX0_splice 23 = .ok (.aload_n 0, 1) := by decide +kernel
theorem dX0_splice_24 : decode cX0_splice 24 = .ok (.iload_n 1, 1) := by decide +kernel
theorem dX0_splice_25 : decode cX0_splice 25 = .ok (.invokevirtual 105, 3) := by decide +kernel
theorem dX0_splice_28 : decode cX0_splice 28 = .ok (.aload_n 0, 1) := by decide +kernel
theorem dX0_splice_29 : decode cX0_splice 29 = .ok (.iload_n 2, 1) := by decide +kernel
theorem dX0_splice_30 : decode cX0_splice 30 = .ok (.invokevirtual 105, 3) := by decide +kernel
theorem dX0_splice_33 : decode cX0_splice 33 = .ok (.invokevirtual 109, 3) := by decide +kernel
theorem dX0_splice_36 : decode cX0_splice 36 = .ok (.return_, 1) := by decide +kernel
theorem dX0_hasRoom_0 : decode cX0_hasRoom 0 = .ok (.aload_n 0, 1) := by decide +kernel
theorem dX0_hasRoom_1 : decode cX0_hasRoom 1 = .ok (.getfield 59, 3) := by decide +kernel
theorem dX0_hasRoom_4 : decode cX0_hasRoom 4 = .ok (.iload_n 1, 1) := by decide +kernel
theorem dX0_hasRoom_5 : decode cX0_hasRoom 5 = .ok (.iadd, 1) := by decide +kernel
theorem dX0_hasRoom_6 : decode cX0_hasRoom 6 = .ok (.aload_n 0, 1) := by decide +kernel
theorem dX0_hasRoom_7 : decode cX0_hasRoom 7 = .ok (.getfield 55, 3) := by decide +kernel
theorem dX0_hasRoom_10 : decode cX0_hasRoom 10 = .ok (.if_icmp .gt 7, 3) := by decide +kernel
theorem dX0_hasRoom_13 : decode cX0_hasRoom 13 = .ok (.iconst 1, 1) := by decide +kernel
theorem dX0_hasRoom_14 : decode cX0_hasRoom 14 = .ok (.goto 4, 3) := by decide +kernel
theorem dX0_hasRoom_17 : decode cX0_hasRoom 17 = .ok (.iconst 0, 1) := by decide +kernel
theorem dX0_hasRoom_18 : decode cX0_hasRoom 18 = .ok (.ireturn, 1) := by decide +kernel
set_option maxRecDepth 20000 in
theorem ggX0_make_X0_givenNext : GoodIn wsX0_make wsX0_givenNext := goodIn_r _ [10, 11, 4, 1, 12, 2, 13, 14, 15, 16, 17, 18, 19, 20, 21, 22, 23, 24, 25, 26, 27] (by decide +kernel) (by decide +kernel)
set_option maxRecDepth 20000 in
theorem gX0_make_X0_givenNext : GoodIn wsX0_make (wsV RX0 112 RX0 yX0_givenNext wsX0_givenNext) := goodIn_app (goodIn_of _ (by decide +kernel)) ggX0_make_X0_givenNext
theorem dX0_make_0 : decode cX0_make 0 = .ok (.aload_n 0, 1) := by decide +kernel
theorem dX0_make_1 : decode cX0_make 1 = .ok (.iconst 0, 1) := by decide +kernel
theorem dX0_make_2 : decode cX0_make 2 = .ok (.invokevirtual 112, 3) := by decide +kernel
theorem dX0_make_5 : decode cX0_make 5 = .ok (.istore_n 2, 1) := by decide +kernel
theorem dX0_make_6 : decode cX0_make 6 = .ok (.iload_n 2, 1) := by decide +kernel
theorem dX0_make_7 : decode cX0_make 7 = .ok (.iconst (-1), 1) := by decide +kernel
theorem dX0_make_8 : decode cX0_make 8 = .ok (.if_icmp .ne 5, 3) := by decide +kernel
theorem dX0_make_11 : decode cX0_make 11 = .ok (.iconst (-1), 1) := by decide +kernel
theorem dX0_make_12 : decode cX0_make 12 = .ok (.ireturn, 1) := by decide +kernel
theorem dX0_make_13 : decode cX0_make 13 = .ok (.aload_n 0, 1) := by decide +kernel
theorem dX0_make_14 : decode cX0_make 14 = .ok (.getfield 68, 3) := by decide +kernel
theorem dX0_make_17 : decode cX0_make 17 = .ok (.ifCond .le 16, 3) := by decide +kernel
theorem dX0_make_20 : decode cX0_make 20 = .ok (.aload_n 0, 1) := by decide +kernel
theorem dX0_make_21 : decode cX0_make 21 = .ok (.dup, 1) := by decide +kernel
theorem dX0_make_22 : decode cX0_make 22 = .ok (.getfield 68, 3) := by decide +kernel
theorem dX0_make_25 : decode cX0_make 25 = .ok (.iconst 1, 1) := by decide +kernel
theorem dX0_make_26 : decode cX0_make 26 = .ok (.isub, 1) := by decide +kernel
theorem dX0_make_27 : decode cX0_make 27 = .ok (.putfield 68, 3) := by decide +kernel
theorem dX0_make_30 : decode cX0_make 30 = .ok (.goto 13, 3) := by decide +kernel
theorem dX0_make_33 : decode cX0_make 33 = .ok (.aload_n 0, 1) := by decide +kernel
theorem dX0_make_34 : decode cX0_make 34 = .ok (.dup, 1) := by decide +kernel
theorem dX0_make_35 : decode cX0_make 35 = .ok (.getfield 71, 3) := by decide +kernel
theorem dX0_make_38 : decode cX0_make 38 = .ok (.iconst 1, 1) := by decide +kernel
theorem dX0_make_39 : decode cX0_make 39 = .ok (.iadd, 1) := by decide +kernel
theorem dX0_make_40 : decode cX0_make 40 = .ok (.putfield 71, 3) := by decide +kernel
theorem dX0_make_43 : decode cX0_make 43 = .ok (.aload_n 0, 1) := by decide +kernel
theorem dX0_make_44 : decode cX0_make 44 = .ok (.getfield 9, 3) := by decide +kernel
theorem dX0_make_47 : decode cX0_make 47 = .ok (.iload_n 2, 1) := by decide +kernel
theorem dX0_make_48 : decode cX0_make 48 = .ok (.iload_n 1, 1) := by decide +kernel
theorem dX0_make_49 : decode cX0_make 49 = .ok (.iastore, 1) := by decide +kernel
theorem dX0_make_50 : decode cX0_make 50 = .ok (.aload_n 0, 1) := by decide +kernel
theorem dX0_make_51 : decode cX0_make 51 = .ok (.dup, 1) := by decide +kernel
theorem dX0_make_52 : decode cX0_make 52 = .ok (.getfield 59, 3) := by decide +kernel
theorem dX0_make_55 : decode cX0_make 55 = .ok (.iconst 1, 1) := by decide +kernel
theorem dX0_make_56 : decode cX0_make 56 = .ok (.iadd, 1) := by decide +kernel
theorem dX0_make_57 : decode cX0_make 57 = .ok (.putfield 59, 3) := by decide +kernel
theorem dX0_make_60 : decode cX0_make 60 = .ok (.aload_n 0, 1) := by decide +kernel
theorem dX0_make_61 : decode cX0_make 61 = .ok (.dup, 1) := by decide +kernel
theorem dX0_make_62 : decode cX0_make 62 = .ok (.getfield 62, 3) := by decide +kernel
theorem dX0_make_65 : decode cX0_make 65 = .ok (.iconst 1, 1) := by decide +kernel
theorem dX0_make_66 : decode cX0_make 66 = .ok (.iadd, 1) := by decide +kernel
theorem dX0_make_67 : decode cX0_make 67 = .ok (.putfield 62, 3) := by decide +kernel
theorem dX0_make_70 : decode cX0_make 70 = .ok (.iload_n 2, 1) := by decide +kernel
theorem dX0_make_71 : decode cX0_make 71 = .ok (.ireturn, 1) := by decide +kernel
set_option maxRecDepth 20000 in
theorem ggX0_free_X0_kindOf : GoodIn wsX0_free wsX0_kindOf := goodIn_r _ [10, 2, 11, 12, 13, 14, 15, 16, 17, 18, 19, 20, 21, 22, 23, 24, 25] (by decide +kernel) (by decide +kernel)
set_option maxRecDepth 20000 in
theorem gX0_free_X0_kindOf : GoodIn wsX0_free (wsV RX0 115 RX0 yX0_kindOf wsX0_kindOf) := goodIn_app (goodIn_of _ (by decide +kernel)) ggX0_free_X0_kindOf
theorem dX0_free_0 : decode cX0_free 0 = .ok (.aload_n 0, 1) := by decide +kernel
theorem dX0_free_1 : decode cX0_free 1 = .ok (.iload_n 1, 1) := by decide +kernel
theorem dX0_free_2 : decode cX0_free 2 = .ok (.invokevirtual 115, 3) := by decide +kernel
theorem dX0_free_5 : decode cX0_free 5 = .ok (.iconst (-1), 1) := by decide +kernel
theorem dX0_free_6 : decode cX0_free 6 = .ok (.if_icmp .eq 13, 3) := by decide +kernel
theorem dX0_free_9 : decode cX0_free 9 = .ok (.aload_n 0, 1) := by decide +kernel
theorem dX0_free_10 : decode cX0_free 10 = .ok (.getfield 68, 3) := by decide +kernel
theorem dX0_free_13 : decode cX0_free 13 = .ok (.sipush 300, 3) := by decide +kernel
theorem dX0_free_16 : decode cX0_free 16 = .ok (.if_icmp .lt 4, 3) := by decide +kernel
theorem dX0_free_19 : decode cX0_free 19 = .ok (.return_, 1) := by decide +kernel
theorem dX0_free_20 : decode cX0_free 20 = .ok (.aload_n 0, 1) := by decide +kernel
theorem dX0_free_21 : decode cX0_free 21 = .ok (.getfield 9, 3) := by decide +kernel
theorem dX0_free_24 : decode cX0_free 24 = .ok (.iload_n 1, 1) := by decide +kernel
theorem dX0_free_25 : decode cX0_free 25 = .ok (.iconst (-1), 1) := by decide +kernel
theorem dX0_free_26 : decode cX0_free 26 = .ok (.iastore, 1) := by decide +kernel
theorem dX0_free_27 : decode cX0_free 27 = .ok (.aload_n 0, 1) := by decide +kernel
theorem dX0_free_28 : decode cX0_free 28 = .ok (.getfield 15, 3) := by decide +kernel
theorem dX0_free_31 : decode cX0_free 31 = .ok (.aload_n 0, 1) := by decide +kernel
theorem dX0_free_32 : decode cX0_free 32 = .ok (.getfield 68, 3) := by decide +kernel
theorem dX0_free_35 : decode cX0_free 35 = .ok (.iload_n 1, 1) := by decide +kernel
theorem dX0_free_36 : decode cX0_free 36 = .ok (.iastore, 1) := by decide +kernel
theorem dX0_free_37 : decode cX0_free 37 = .ok (.aload_n 0, 1) := by decide +kernel
theorem dX0_free_38 : decode cX0_free 38 = .ok (.dup, 1) := by decide +kernel
theorem dX0_free_39 : decode cX0_free 39 = .ok (.getfield 68, 3) := by decide +kernel
theorem dX0_free_42 : decode cX0_free 42 = .ok (.iconst 1, 1) := by decide +kernel
theorem dX0_free_43 : decode cX0_free 43 = .ok (.iadd, 1) := by decide +kernel
theorem dX0_free_44 : decode cX0_free 44 = .ok (.putfield 68, 3) := by decide +kernel
theorem dX0_free_47 : decode cX0_free 47 = .ok (.aload_n 0, 1) := by decide +kernel
theorem dX0_free_48 : decode cX0_free 48 = .ok (.dup, 1) := by decide +kernel
theorem dX0_free_49 : decode cX0_free 49 = .ok (.getfield 65, 3) := by decide +kernel
theorem dX0_free_52 : decode cX0_free 52 = .ok (.iconst 1, 1) := by decide +kernel
theorem dX0_free_53 : decode cX0_free 53 = .ok (.iadd, 1) := by decide +kernel
theorem dX0_free_54 : decode cX0_free 54 = .ok (.putfield 65, 3) := by decide +kernel
theorem dX0_free_57 : decode cX0_free 57 = .ok (.aload_n 0, 1) := by decide +kernel
theorem dX0_free_58 : decode cX0_free 58 = .ok (.dup, 1) := by decide +kernel
theorem dX0_free_59 : decode cX0_free 59 = .ok (.getfield 59, 3) := by decide +kernel
theorem dX0_free_62 : decode cX0_free 62 = .ok (.iconst 1, 1) := by decide +kernel
theorem dX0_free_63 : decode cX0_free 63 = .ok (.isub, 1) := by decide +kernel
theorem dX0_free_64 : decode cX0_free 64 = .ok (.putfield 59, 3) := by decide +kernel
theorem dX0_free_67 : decode cX0_free 67 = .ok (.return_, 1) := by decide +kernel
theorem dX0_givenNext_0 : decode cX0_givenNext 0 = .ok (.iload_n 1, 1) := by decide +kernel
theorem dX0_givenNext_1 : decode cX0_givenNext 1 = .ok (.ifCond .lt 16, 3) := by decide +kernel
theorem dX0_givenNext_4 : decode cX0_givenNext 4 = .ok (.iload_n 1, 1) := by decide +kernel
theorem dX0_givenNext_5 : decode cX0_givenNext 5 = .ok (.aload_n 0, 1) := by decide +kernel
theorem dX0_givenNext_6 : decode cX0_givenNext 6 = .ok (.getfield 55, 3) := by decide +kernel
theorem dX0_givenNext_9 : decode cX0_givenNext 9 = .ok (.aload_n 0, 1) := by decide +kernel
theorem dX0_givenNext_10 : decode cX0_givenNext 10 = .ok (.getfield 59, 3) := by decide +kernel
theorem dX0_givenNext_13 : decode cX0_givenNext 13 = .ok (.isub, 1) := by decide +kernel
theorem dX0_givenNext_14 : decode cX0_givenNext 14 = .ok (.if_icmp .lt 5, 3) := by decide +kernel
theorem dX0_givenNext_17 : decode cX0_givenNext 17 = .ok (.iconst (-1), 1) := by decide +kernel
theorem dX0_givenNext_18 : decode cX0_givenNext 18 = .ok (.ireturn, 1) := by decide +kernel
theorem dX0_givenNext_19 : decode cX0_givenNext 19 = .ok (.iload_n 1, 1) := by decide +kernel
theorem dX0_givenNext_20 : decode cX0_givenNext 20 = .ok (.aload_n 0, 1) := by decide +kernel
theorem dX0_givenNext_21 : decode cX0_givenNext 21 = .ok (.getfield 68, 3) := by decide +kernel
theorem dX0_givenNext_24 : decode cX0_givenNext 24 = .ok (.if_icmp .ge 19, 3) := by decide +kernel
theorem dX0_givenNext_27 : decode cX0_givenNext 27 = .ok (.aload_n 0, 1) := by decide +kernel
theorem dX0_givenNext_28 : decode cX0_givenNext 28 = .ok (.getfield 15, 3) := by decide +kernel
theorem dX0_givenNext_31 : decode cX0_givenNext 31 = .ok (.aload_n 0, 1) := by decide +kernel
theorem dX0_givenNext_32 : decode cX0_givenNext 32 = .ok (.getfield 68, 3) := by decide +kernel
theorem dX0_givenNext_35 : decode cX0_givenNext 35 = .ok (.iconst 1, 1) := by decide +kernel
theorem dX0_givenNext_36 : decode cX0_givenNext 36 = .ok (.isub, 1) := by decide +kernel
theorem dX0_givenNext_37 : decode cX0_givenNext 37 = .ok (.iload_n 1, 1) := by decide +kernel
theorem dX0_givenNext_38 : decode cX0_givenNext 38 = .ok (.isub, 1) := by decide +kernel
theorem dX0_givenNext_39 : decode cX0_givenNext 39 = .ok (.iaload, 1) := by decide +kernel
theorem dX0_givenNext_40 : decode cX0_givenNext 40 = .ok (.goto 14, 3) := by decide +kernel
theorem dX0_givenNext_43 : decode cX0_givenNext 43 = .ok (.aload_n 0, 1) := by decide +kernel
theorem dX0_givenNext_44 : decode cX0_givenNext 44 = .ok (.getfield 71, 3) := by decide +kernel
theorem dX0_givenNext_47 : decode cX0_givenNext 47 = .ok (.iload_n 1, 1) := by decide +kernel
theorem dX0_givenNext_48 : decode cX0_givenNext 48 = .ok (.aload_n 0, 1) := by decide +kernel
theorem dX0_givenNext_49 : decode cX0_givenNext 49 = .ok (.getfield 68, 3) := by decide +kernel
theorem dX0_givenNext_52 : decode cX0_givenNext 52 = .ok (.isub, 1) := by decide +kernel
theorem dX0_givenNext_53 : decode cX0_givenNext 53 = .ok (.iadd, 1) := by decide +kernel
theorem dX0_givenNext_54 : decode cX0_givenNext 54 = .ok (.ireturn, 1) := by decide +kernel
theorem dX0_hasRoot_0 : decode cX0_hasRoot 0 = .ok (.iload_n 1, 1) := by decide +kernel
theorem dX0_hasRoot_1 : decode cX0_hasRoot 1 = .ok (.ifCond .lt 27, 3) := by decide +kernel
theorem dX0_hasRoot_4 : decode cX0_hasRoot 4 = .ok (.iload_n 1, 1) := by decide +kernel
theorem dX0_hasRoot_5 : decode cX0_hasRoot 5 = .ok (.bipush 16, 2) := by decide +kernel
theorem dX0_hasRoot_7 : decode cX0_hasRoot 7 = .ok (.if_icmp .ge 21, 3) := by decide +kernel
theorem dX0_hasRoot_10 : decode cX0_hasRoot 10 = .ok (.aload_n 0, 1) := by decide +kernel
theorem dX0_hasRoot_11 : decode cX0_hasRoot 11 = .ok (.getfield 37, 3) := by decide +kernel
theorem dX0_hasRoot_14 : decode cX0_hasRoot 14 = .ok (.sipush 1000, 3) := by decide +kernel
theorem dX0_hasRoot_17 : decode cX0_hasRoot 17 = .ok (.iload_n 1, 1) := by decide +kernel
theorem dX0_hasRoot_18 : decode cX0_hasRoot 18 = .ok (.iadd, 1) := by decide +kernel
theorem dX0_hasRoot_19 : decode cX0_hasRoot 19 = .ok (.iaload, 1) := by decide +kernel
theorem dX0_hasRoot_20 : decode cX0_hasRoot 20 = .ok (.iconst (-1), 1) := by decide +kernel
theorem dX0_hasRoot_21 : decode cX0_hasRoot 21 = .ok (.if_icmp .eq 7, 3) := by decide +kernel
theorem dX0_hasRoot_24 : decode cX0_hasRoot 24 = .ok (.iconst 1, 1) := by decide +kernel
theorem dX0_hasRoot_25 : decode cX0_hasRoot 25 = .ok (.goto 4, 3) := by decide +kernel
theorem dX0_hasRoot_28 : decode cX0_hasRoot 28 = .ok (.iconst 0, 1) := by decide +kernel
theorem dX0_hasRoot_29 : decode cX0_hasRoot 29 = .ok (.ireturn, 1) := by decide +kernel
set_option maxRecDepth 20000 in
theorem ggX0_rootsThere_X0_hasRoot : GoodIn wsX0_rootsThere wsX0_hasRoot := goodIn_r _ [5, 6, 7, 8, 9, 10, 11, 12, 13, 14, 15, 16, 17, 18, 19, 20, 21] (by decide +kernel) (by decide +kernel)
set_option maxRecDepth 20000 in
theorem gX0_rootsThere_X0_hasRoot : GoodIn wsX0_rootsThere (wsV RX0 118 RX0 yX0_hasRoot wsX0_hasRoot) := goodIn_app (goodIn_of _ (by decide +kernel)) ggX0_rootsThere_X0_hasRoot
theorem dX0_rootsThere_0 : decode cX0_rootsThere 0 = .ok (.iconst 0, 1) := by decide +kernel
theorem dX0_rootsThere_1 : decode cX0_rootsThere 1 = .ok (.istore_n 1, 1) := by decide +kernel
theorem dX0_rootsThere_2 : decode cX0_rootsThere 2 = .ok (.iconst 0, 1) := by decide +kernel
theorem dX0_rootsThere_3 : decode cX0_rootsThere 3 = .ok (.istore_n 2, 1) := by decide +kernel
theorem dX0_rootsThere_4 : decode cX0_rootsThere 4 = .ok (.iload_n 2, 1) := by decide +kernel
theorem dX0_rootsThere_5 : decode cX0_rootsThere 5 = .ok (.bipush 16, 2) := by decide +kernel
theorem dX0_rootsThere_7 : decode cX0_rootsThere 7 = .ok (.if_icmp .ge 20, 3) := by decide +kernel
theorem dX0_rootsThere_10 : decode cX0_rootsThere 10 = .ok (.aload_n 0, 1) := by decide +kernel
theorem dX0_rootsThere_11 : decode cX0_rootsThere 11 = .ok (.iload_n 2, 1) := by decide +kernel
theorem dX0_rootsThere_12 : decode cX0_rootsThere 12 = .ok (.invokevirtual 118, 3) := by decide +kernel
theorem dX0_rootsThere_15 : decode cX0_rootsThere 15 = .ok (.ifCond .eq 6, 3) := by decide +kernel
theorem dX0_rootsThere_18 : decode cX0_rootsThere 18 = .ok (.iinc 1 1, 3) := by decide +kernel
theorem dX0_rootsThere_21 : decode cX0_rootsThere 21 = .ok (.iinc 2 1, 3) := by decide +kernel
theorem dX0_rootsThere_24 : decode cX0_rootsThere 24 = .ok (.goto (-20), 3) := by decide +kernel
theorem dX0_rootsThere_27 : decode cX0_rootsThere 27 = .ok (.iload_n 1, 1) := by decide +kernel
theorem dX0_rootsThere_28 : decode cX0_rootsThere 28 = .ok (.ireturn, 1) := by decide +kernel
set_option maxRecDepth 20000 in
theorem ggX0_makeRoot_X0_connect : GoodIn wsX0_makeRoot wsX0_connect := goodIn_r _ [6, 7, 8, 9, 10, 11, 12, 13, 14, 15, 5, 16, 17, 18, 19, 20, 21, 22, 23, 24, 25, 26, 27, 28, 29, 30, 31, 32, 33, 34, 35, 36, 37, 38, 39, 40, 41, 42, 43, 44] (by decide +kernel) (by decide +kernel)
set_option maxRecDepth 20000 in
theorem gX0_makeRoot_X0_connect : GoodIn wsX0_makeRoot (wsV RX0 109 RX0 yX0_connect wsX0_connect) := goodIn_app (goodIn_of _ (by decide +kernel)) ggX0_makeRoot_X0_connect
theorem dX0_makeRoot_0 : decode cX0_makeRoot 0 = .ok (.aload_n 0, 1) := by decide +kernel
theorem dX0_makeRoot_1 : decode cX0_makeRoot 1 = .ok (.getfield 74, 3) := by decide +kernel
theorem dX0_makeRoot_4 : decode cX0_makeRoot 4 = .ok (.bipush 16, 2) := by decide +kernel
theorem dX0_makeRoot_6 : decode cX0_makeRoot 6 = .ok (.if_icmp .lt 5, 3) := by decide +kernel
theorem dX0_makeRoot_9 : decode cX0_makeRoot 9 = .ok (.iconst (-1), 1) := by decide +kernel
theorem dX0_makeRoot_10 : decode cX0_makeRoot 10 = .ok (.ireturn, 1) := by decide +kernel
theorem dX0_makeRoot_11 : decode cX0_makeRoot 11 = .ok (.aload_n 0, 1) := by decide +kernel
theorem dX0_makeRoot_12 : decode cX0_makeRoot 12 = .ok (.getfield 74, 3) := by decide +kernel
theorem dX0_makeRoot_15 : decode cX0_makeRoot 15 = .ok (.istore_n 2, 1) := by decide +kernel
theorem dX0_makeRoot_16 : decode cX0_makeRoot 16 = .ok (.aload_n 0, 1) := by decide +kernel
theorem dX0_makeRoot_17 : decode cX0_makeRoot 17 = .ok (.dup, 1) := by decide +kernel
theorem dX0_makeRoot_18 : decode cX0_makeRoot 18 = .ok (.getfield 74, 3) := by decide +kernel
theorem dX0_makeRoot_21 : decode cX0_makeRoot 21 = .ok (.iconst 1, 1) := by decide +kernel
theorem dX0_makeRoot_22 : decode cX0_makeRoot 22 = .ok (.iadd, 1) := by decide +kernel
theorem dX0_makeRoot_23 : decode cX0_makeRoot 23 = .ok (.putfield 74, 3) := by decide +kernel
theorem dX0_makeRoot_26 : decode cX0_makeRoot 26 = .ok (.aload_n 0, 1) := by decide +kernel
theorem dX0_makeRoot_27 : decode cX0_makeRoot 27 = .ok (.sipush 1000, 3) := by decide +kernel
theorem dX0_makeRoot_30 : decode cX0_makeRoot 30 = .ok (.iload_n 2, 1) := by decide +kernel
theorem dX0_makeRoot_31 : decode cX0_makeRoot 31 = .ok (.iadd, 1) := by decide +kernel
theorem dX0_makeRoot_32 : decode cX0_makeRoot 32 = .ok (.iload_n 1, 1) := by decide +kernel
theorem dX0_makeRoot_33 : decode cX0_makeRoot 33 = .ok (.invokevirtual 109, 3) := by decide +kernel
theorem dX0_makeRoot_36 : decode cX0_makeRoot 36 = .ok (.iload_n 2, 1) := by decide +kernel
theorem dX0_makeRoot_37 : decode cX0_makeRoot 37 = .ok (.ireturn, 1) := by decide +kernel
set_option maxRecDepth 20000 in
theorem ggX0_endRoot_X0_hasRoot : GoodIn wsX0_endRoot wsX0_hasRoot := goodIn_r _ [6, 1, 39, 40, 41, 42, 43, 44, 45, 46, 47, 48, 49, 50, 51, 52, 53] (by decide +kernel) (by decide +kernel)
set_option maxRecDepth 20000 in
theorem gX0_endRoot_X0_hasRoot : GoodIn wsX0_endRoot (wsV RX0 118 RX0 yX0_hasRoot wsX0_hasRoot) := goodIn_app (goodIn_of _ (by decide +kernel)) ggX0_endRoot_X0_hasRoot
set_option maxRecDepth 20000 in
theorem ggX0_endRoot_X0_move : GoodIn wsX0_endRoot wsX0_move := goodIn_r _ [10, 11, 12, 13, 5, 14, 1, 15, 16, 17, 18, 19, 20, 21, 22, 23, 24, 25, 26, 27, 28, 29, 30, 31, 32, 33, 34, 35, 36, 37, 38, 39, 40, 41, 42, 43, 44, 45, 46, 47, 48, 49, 50, 51, 52, 53, 54, 55] (by decide +kernel) (by decide +kernel)
set_option maxRecDepth 20000 in
theorem gX0_endRoot_X0_move : GoodIn wsX0_endRoot (wsV RX0 121 RX0 yX0_move wsX0_move) := goodIn_app (goodIn_of _ (by decide +kernel)) ggX0_endRoot_X0_move
theorem dX0_endRoot_0 : decode cX0_endRoot 0 = .ok (.aload_n 0, 1) := by decide +kernel
theorem dX0_endRoot_1 : decode cX0_endRoot 1 = .ok (.iload_n 1, 1) := by decide +kernel
theorem dX0_endRoot_2 : decode cX0_endRoot 2 = .ok (.invokevirtual 118, 3) := by decide +kernel
theorem dX0_endRoot_5 : decode cX0_endRoot 5 = .ok (.ifCond .eq 24, 3) := by decide +kernel
theorem dX0_endRoot_8 : decode cX0_endRoot 8 = .ok (.aload_n 0, 1) := by decide +kernel
theorem dX0_endRoot_9 : decode cX0_endRoot 9 = .ok (.sipush 1000, 3) := by decide +kernel
theorem dX0_endRoot_12 : decode cX0_endRoot 12 = .ok (.iload_n 1, 1) := by decide +kernel
theorem dX0_endRoot_13 : decode cX0_endRoot 13 = .ok (.iadd, 1) := by decide +kernel
theorem dX0_endRoot_14 : decode cX0_endRoot 14 = .ok (.iload_n 2, 1) := by decide +kernel
theorem dX0_endRoot_15 : decode cX0_endRoot 15 = .ok (.invokevirtual 121, 3) := by decide +kernel
theorem dX0_endRoot_18 : decode cX0_endRoot 18 = .ok (.aload_n 0, 1) := by decide +kernel
theorem dX0_endRoot_19 : decode cX0_endRoot 19 = .ok (.getfield 37, 3) := by decide +kernel
theorem dX0_endRoot_22 : decode cX0_endRoot 22 = .ok (.sipush 1000, 3) := by decide +kernel
theorem dX0_endRoot_25 : decode cX0_endRoot 25 = .ok (.iload_n 1, 1) := by decide +kernel
theorem dX0_endRoot_26 : decode cX0_endRoot 26 = .ok (.iadd, 1) := by decide +kernel
theorem dX0_endRoot_27 : decode cX0_endRoot 27 = .ok (.iconst (-1), 1) := by decide +kernel
theorem dX0_endRoot_28 : decode cX0_endRoot 28 = .ok (.iastore, 1) := by decide +kernel
theorem dX0_endRoot_29 : decode cX0_endRoot 29 = .ok (.return_, 1) := by decide +kernel
set_option maxRecDepth 20000 in
theorem ggX0_joinRoots_X0_hasRoot : GoodIn wsX0_joinRoots wsX0_hasRoot := goodIn_r _ [6, 1, 40, 41, 42, 43, 44, 45, 46, 47, 48, 49, 50, 51, 52, 53, 54] (by decide +kernel) (by decide +kernel)
set_option maxRecDepth 20000 in
theorem gX0_joinRoots_X0_hasRoot : GoodIn wsX0_joinRoots (wsV RX0 118 RX0 yX0_hasRoot wsX0_hasRoot) := goodIn_app (goodIn_of _ (by decide +kernel)) ggX0_joinRoots_X0_hasRoot
set_option maxRecDepth 20000 in
theorem ggX0_joinRoots_X0_splice : GoodIn wsX0_joinRoots wsX0_splice := goodIn_r _ [10, 11, 12, 13, 14, 5, 15, 1, 16, 17, 18, 19, 20, 21, 22, 23, 24, 25, 26, 27, 28, 29, 30, 31, 32, 33, 34, 35, 36, 37, 38, 39, 40, 41, 42, 43, 44, 45, 46, 47, 48, 49, 50, 51, 52, 53, 54, 55, 56] (by decide +kernel) (by decide +kernel)
set_option maxRecDepth 20000 in
theorem gX0_joinRoots_X0_splice : GoodIn wsX0_joinRoots (wsV RX0 124 RX0 yX0_splice wsX0_splice) := goodIn_app (goodIn_of _ (by decide +kernel)) ggX0_joinRoots_X0_splice
theorem dX0_joinRoots_0 : decode cX0_joinRoots 0 = .ok (.aload_n 0, 1) := by decide +kernel
theorem dX0_joinRoots_1 : decode cX0_joinRoots 1 = .ok (.iload_n 1, 1) := by decide +kernel
theorem dX0_joinRoots_2 : decode cX0_joinRoots 2 = .ok (.invokevirtual 118, 3) := by decide +kernel
theorem dX0_joinRoots_5 : decode cX0_joinRoots 5 = .ok (.ifCond .eq 47, 3) := by decide +kernel
theorem dX0_joinRoots_8 : decode cX0_joinRoots 8 = .ok (.aload_n 0, 1) := by decide +kernel
theorem dX0_joinRoots_9 : decode cX0_joinRoots 9 = .ok (.iload_n 2, 1) := by decide +kernel
theorem dX0_joinRoots_10 : decode cX0_joinRoots 10 = .ok (.invokevirtual 118, 3) := by decide +kernel
theorem dX0_joinRoots_13 : decode cX0_joinRoots 13 = .ok (.ifCond .eq 39, 3) := by decide +kernel
theorem dX0_joinRoots_16 : decode cX0_joinRoots 16 = .ok (.aload_n 0, 1) := by decide +kernel
theorem dX0_joinRoots_17 : decode cX0_joinRoots 17 = .ok (.sipush 1000, 3) := by decide +kernel
theorem dX0_joinRoots_20 : decode cX0_joinRoots 20 = .ok (.iload_n 1, 1) := by decide +kernel
theorem dX0_joinRoots_21 : decode cX0_joinRoots 21 = .ok (.iadd, 1) := by decide +kernel
theorem dX0_joinRoots_22 : decode cX0_joinRoots 22 = .ok (.sipush 1000, 3) := by decide +kernel
theorem dX0_joinRoots_25 : decode cX0_joinRoots 25 = .ok (.iload_n 2, 1) := by decide +kernel
theorem dX0_joinRoots_26 : decode cX0_joinRoots 26 = .ok (.iadd, 1) := by decide +kernel
theorem dX0_joinRoots_27 : decode cX0_joinRoots 27 = .ok (.invokevirtual 124, 3) := by decide +kernel
theorem dX0_joinRoots_30 : decode cX0_joinRoots 30 = .ok (.aload_n 0, 1) := by decide +kernel
theorem dX0_joinRoots_31 : decode cX0_joinRoots 31 = .ok (.getfield 37, 3) := by decide +kernel
theorem dX0_joinRoots_34 : decode cX0_joinRoots 34 = .ok (.sipush 1000, 3) := by decide +kernel
theorem dX0_joinRoots_37 : decode cX0_joinRoots 37 = .ok (.iload_n 1, 1) := by decide +kernel
theorem dX0_joinRoots_38 : decode cX0_joinRoots 38 = .ok (.iadd, 1) := by decide +kernel
theorem dX0_joinRoots_39 : decode cX0_joinRoots 39 = .ok (.iconst (-1), 1) := by decide +kernel
theorem dX0_joinRoots_40 : decode cX0_joinRoots 40 = .ok (.iastore, 1) := by decide +kernel
theorem dX0_joinRoots_41 : decode cX0_joinRoots 41 = .ok (.aload_n 0, 1) := by decide +kernel
theorem dX0_joinRoots_42 : decode cX0_joinRoots 42 = .ok (.getfield 37, 3) := by decide +kernel
theorem dX0_joinRoots_45 : decode cX0_joinRoots 45 = .ok (.sipush 1000, 3) := by decide +kernel
theorem dX0_joinRoots_48 : decode cX0_joinRoots 48 = .ok (.iload_n 2, 1) := by decide +kernel
theorem dX0_joinRoots_49 : decode cX0_joinRoots 49 = .ok (.iadd, 1) := by decide +kernel
theorem dX0_joinRoots_50 : decode cX0_joinRoots 50 = .ok (.iconst (-1), 1) := by decide +kernel
theorem dX0_joinRoots_51 : decode cX0_joinRoots 51 = .ok (.iastore, 1) := by decide +kernel
theorem dX0_joinRoots_52 : decode cX0_joinRoots 52 = .ok (.return_, 1) := by decide +kernel
theorem dX0_numberSize_0 : decode cX0_numberSize 0 = .ok (.iconst 2, 1) := by decide +kernel
theorem dX0_numberSize_1 : decode cX0_numberSize 1 = .ok (.iload_n 0, 1) := by decide +kernel
theorem dX0_numberSize_2 : decode cX0_numberSize 2 = .ok (.imul, 1) := by decide +kernel
theorem dX0_numberSize_3 : decode cX0_numberSize 3 = .ok (.iconst 1, 1) := by decide +kernel
theorem dX0_numberSize_4 : decode cX0_numberSize 4 = .ok (.iadd, 1) := by decide +kernel
theorem dX0_numberSize_5 : decode cX0_numberSize 5 = .ok (.ireturn, 1) := by decide +kernel
set_option maxRecDepth 20000 in
theorem ggX0_makeNumber_X0_make : GoodIn wsX0_makeNumber wsX0_make := goodIn_r _ [5, 6, 7, 8, 9, 10, 11, 12, 13, 4, 14, 15, 16, 22, 23, 24, 25, 26, 27, 28, 29, 30, 31, 32, 33, 34, 35, 36] (by decide +kernel) (by decide +kernel)
set_option maxRecDepth 20000 in
theorem gX0_makeNumber_X0_make : GoodIn wsX0_makeNumber (wsV RX0 127 RX0 yX0_make wsX0_make) := goodIn_app (goodIn_of _ (by decide +kernel)) ggX0_makeNumber_X0_make
set_option maxRecDepth 20000 in
theorem ggX0_makeNumber_X0_tie : GoodIn wsX0_makeNumber wsX0_tie := goodIn_r _ [20, 21, 22, 23, 24, 25, 26, 27, 28, 29, 30, 31, 32, 33, 34, 35, 36] (by decide +kernel) (by decide +kernel)
set_option maxRecDepth 20000 in
theorem gX0_makeNumber_X0_tie : GoodIn wsX0_makeNumber (wsV RX0 93 RX0 yX0_tie wsX0_tie) := goodIn_app (goodIn_of _ (by decide +kernel)) ggX0_makeNumber_X0_tie
theorem dX0_makeNumber_0 : decode cX0_makeNumber 0 = .ok (.iconst (-1), 1) := by decide +kernel
theorem dX0_makeNumber_1 : decode cX0_makeNumber 1 = .ok (.istore_n 2, 1) := by decide +kernel
theorem dX0_makeNumber_2 : decode cX0_makeNumber 2 = .ok (.iconst (-1), 1) := by decide +kernel
theorem dX0_makeNumber_3 : decode cX0_makeNumber 3 = .ok (.istore_n 3, 1) := by decide +kernel
theorem dX0_makeNumber_4 : decode cX0_makeNumber 4 = .ok (.iconst 0, 1) := by decide +kernel
theorem dX0_makeNumber_5 : decode cX0_makeNumber 5 = .ok (.istore 4, 2) := by decide +kernel
theorem dX0_makeNumber_7 : decode cX0_makeNumber 7 = .ok (.iload 4, 2) := by decide +kernel
theorem dX0_makeNumber_9 : decode cX0_makeNumber 9 = .ok (.iload_n 1, 1) := by decide +kernel
theorem dX0_makeNumber_10 : decode cX0_makeNumber 10 = .ok (.if_icmp .ge 57, 3) := by decide +kernel
theorem dX0_makeNumber_13 : decode cX0_makeNumber 13 = .ok (.iconst 3, 1) := by decide +kernel
theorem dX0_makeNumber_14 : decode cX0_makeNumber 14 = .ok (.aload_n 0, 1) := by decide +kernel
theorem dX0_makeNumber_15 : decode cX0_makeNumber 15 = .ok (.iconst 1, 1) := by decide +kernel
theorem dX0_makeNumber_16 : decode cX0_makeNumber 16 = .ok (.invokevirtual 127, 3) := by decide +kernel
theorem dX0_makeNumber_19 : decode cX0_makeNumber 19 = .ok (.imul, 1) := by decide +kernel
theorem dX0_makeNumber_20 : decode cX0_makeNumber 20 = .ok (.istore 5, 2) := by decide +kernel
theorem dX0_makeNumber_22 : decode cX0_makeNumber 22 = .ok (.aload_n 0, 1) := by decide +kernel
theorem dX0_makeNumber_23 : decode cX0_makeNumber 23 = .ok (.iload_n 3, 1) := by decide +kernel
theorem dX0_makeNumber_24 : decode cX0_makeNumber 24 = .ok (.iload 5, 2) := by decide +kernel
theorem dX0_makeNumber_26 : decode cX0_makeNumber 26 = .ok (.invokevirtual 93, 3) := by decide +kernel
theorem dX0_makeNumber_29 : decode cX0_makeNumber 29 = .ok (.aload_n 0, 1) := by decide +kernel
theorem dX0_makeNumber_30 : decode cX0_makeNumber 30 = .ok (.iload 5, 2) := by decide +kernel
theorem dX0_makeNumber_32 : decode cX0_makeNumber 32 = .ok (.iconst 1, 1) := by decide +kernel
theorem dX0_makeNumber_33 : decode cX0_makeNumber 33 = .ok (.iadd, 1) := by decide +kernel
theorem dX0_makeNumber_34 : decode cX0_makeNumber 34 = .ok (.iconst 3, 1) := by decide +kernel
theorem dX0_makeNumber_35 : decode cX0_makeNumber 35 = .ok (.aload_n 0, 1) := by decide +kernel
theorem dX0_makeNumber_36 : decode cX0_makeNumber 36 = .ok (.iconst 0, 1) := by decide +kernel
theorem dX0_makeNumber_37 : decode cX0_makeNumber 37 = .ok (.invokevirtual 127, 3) := by decide +kernel
theorem dX0_makeNumber_40 : decode cX0_makeNumber 40 = .ok (.imul, 1) := by decide +kernel
theorem dX0_makeNumber_41 : decode cX0_makeNumber 41 = .ok (.invokevirtual 93, 3) := by decide +kernel
theorem dX0_makeNumber_44 : decode cX0_makeNumber 44 = .ok (.iload 5, 2) := by decide +kernel
theorem dX0_makeNumber_46 : decode cX0_makeNumber 46 = .ok (.iconst 2, 1) := by decide +kernel
theorem dX0_makeNumber_47 : decode cX0_makeNumber 47 = .ok (.iadd, 1) := by decide +kernel
theorem dX0_makeNumber_48 : decode cX0_makeNumber 48 = .ok (.istore_n 3, 1) := by decide +kernel
theorem dX0_makeNumber_49 : decode cX0_makeNumber 49 = .ok (.iload 4, 2) := by decide +kernel
theorem dX0_makeNumber_51 : decode cX0_makeNumber 51 = .ok (.ifCond .ne 8, 3) := by decide +kernel
theorem dX0_makeNumber_54 : decode cX0_makeNumber 54 = .ok (.iload 5, 2) := by decide +kernel
theorem dX0_makeNumber_56 : decode cX0_makeNumber 56 = .ok (.goto 4, 3) := by decide +kernel
theorem dX0_makeNumber_59 : decode cX0_makeNumber 59 = .ok (.iload_n 2, 1) := by decide +kernel
theorem dX0_makeNumber_60 : decode cX0_makeNumber 60 = .ok (.istore_n 2, 1) := by decide +kernel
theorem dX0_makeNumber_61 : decode cX0_makeNumber 61 = .ok (.iinc 4 1, 3) := by decide +kernel
theorem dX0_makeNumber_64 : decode cX0_makeNumber 64 = .ok (.goto (-57), 3) := by decide +kernel
theorem dX0_makeNumber_67 : decode cX0_makeNumber 67 = .ok (.iconst 3, 1) := by decide +kernel
theorem dX0_makeNumber_68 : decode cX0_makeNumber 68 = .ok (.aload_n 0, 1) := by decide +kernel
theorem dX0_makeNumber_69 : decode cX0_makeNumber 69 = .ok (.iconst 0, 1) := by decide +kernel
theorem dX0_makeNumber_70 : decode cX0_makeNumber 70 = .ok (.invokevirtual 127, 3) := by decide +kernel
theorem dX0_makeNumber_73 : decode cX0_makeNumber 73 = .ok (.imul, 1) := by decide +kernel
theorem dX0_makeNumber_74 : decode cX0_makeNumber 74 = .ok (.istore 4, 2) := by decide +kernel
theorem dX0_makeNumber_76 : decode cX0_makeNumber 76 = .ok (.aload_n 0, 1) := by decide +kernel
theorem dX0_makeNumber_77 : decode cX0_makeNumber 77 = .ok (.iload_n 3, 1) := by decide +kernel
theorem dX0_makeNumber_78 : decode cX0_makeNumber 78 = .ok (.iload 4, 2) := by decide +kernel
theorem dX0_makeNumber_80 : decode cX0_makeNumber 80 = .ok (.invokevirtual 93, 3) := by decide +kernel
theorem dX0_makeNumber_83 : decode cX0_makeNumber 83 = .ok (.iload_n 1, 1) := by decide +kernel
theorem dX0_makeNumber_84 : decode cX0_makeNumber 84 = .ok (.ifCond .le 7, 3) := by decide +kernel
theorem dX0_makeNumber_87 : decode cX0_makeNumber 87 = .ok (.iload_n 2, 1) := by decide +kernel
theorem dX0_makeNumber_88 : decode cX0_makeNumber 88 = .ok (.goto 5, 3) := by decide +kernel
theorem dX0_makeNumber_91 : decode cX0_makeNumber 91 = .ok (.iload 4, 2) := by decide +kernel
theorem dX0_makeNumber_93 : decode cX0_makeNumber 93 = .ok (.ireturn, 1) := by decide +kernel
set_option maxRecDepth 20000 in
theorem ggX0_makeList_X0_make : GoodIn wsX0_makeList wsX0_make := goodIn_r _ [5, 6, 7, 8, 9, 10, 11, 12, 13, 4, 14, 15, 16, 26, 27, 28, 29, 30, 31, 32, 33, 34, 35, 36, 37, 38, 39, 40] (by decide +kernel) (by decide +kernel)
set_option maxRecDepth 20000 in
theorem gX0_makeList_X0_make : GoodIn wsX0_makeList (wsV RX0 127 RX0 yX0_make wsX0_make) := goodIn_app (goodIn_of _ (by decide +kernel)) ggX0_makeList_X0_make
set_option maxRecDepth 20000 in
theorem ggX0_makeList_X0_tie : GoodIn wsX0_makeList wsX0_tie := goodIn_r _ [20, 21, 26, 27, 28, 29, 30, 31, 32, 33, 34, 35, 36, 37, 38, 39, 40] (by decide +kernel) (by decide +kernel)
set_option maxRecDepth 20000 in
theorem gX0_makeList_X0_tie : GoodIn wsX0_makeList (wsV RX0 93 RX0 yX0_tie wsX0_tie) := goodIn_app (goodIn_of _ (by decide +kernel)) ggX0_makeList_X0_tie
set_option maxRecDepth 20000 in
theorem ggX0_makeList_X0_makeNumber : GoodIn wsX0_makeList wsX0_makeNumber := goodIn_r _ [25, 1, 2, 3, 4, 5, 6, 7, 8, 9, 10, 11, 12, 13, 14, 15, 16, 17, 18, 19, 20, 21, 26, 27, 28, 29, 30, 31, 32, 33, 34, 35, 36, 37, 38, 39, 40] (by decide +kernel) (by decide +kernel)
set_option maxRecDepth 20000 in
theorem gX0_makeList_X0_makeNumber : GoodIn wsX0_makeList (wsV RX0 130 RX0 yX0_makeNumber wsX0_makeNumber) := goodIn_app (goodIn_of _ (by decide +kernel)) ggX0_makeList_X0_makeNumber
theorem dX0_makeList_0 : decode cX0_makeList 0 = .ok (.iconst (-1), 1) := by decide +kernel
theorem dX0_makeList_1 : decode cX0_makeList 1 = .ok (.istore_n 3, 1) := by decide +kernel
theorem dX0_makeList_2 : decode cX0_makeList 2 = .ok (.iconst (-1), 1) := by decide +kernel
theorem dX0_makeList_3 : decode cX0_makeList 3 = .ok (.istore 4, 2) := by decide +kernel
theorem dX0_makeList_5 : decode cX0_makeList 5 = .ok (.iconst 0, 1) := by decide +kernel
theorem dX0_makeList_6 : decode cX0_makeList 6 = .ok (.istore 5, 2) := by decide +kernel
theorem dX0_makeList_8 : decode cX0_makeList 8 = .ok (.iload 5, 2) := by decide +kernel
theorem dX0_makeList_10 : decode cX0_makeList 10 = .ok (.iload_n 2, 1) := by decide +kernel
theorem dX0_makeList_11 : decode cX0_makeList 11 = .ok (.if_icmp .ge 67, 3) := by decide +kernel
theorem dX0_makeList_14 : decode cX0_makeList 14 = .ok (.iload 5, 2) := by decide +kernel
theorem dX0_makeList_16 : decode cX0_makeList 16 = .ok (.aload_n 1, 1) := by decide +kernel
theorem dX0_makeList_17 : decode cX0_makeList 17 = .ok (.arraylength, 1) := by decide +kernel
theorem dX0_makeList_18 : decode cX0_makeList 18 = .ok (.if_icmp .ge 60, 3) := by decide +kernel
theorem dX0_makeList_21 : decode cX0_makeList 21 = .ok (.iconst 3, 1) := by decide +kernel
theorem dX0_makeList_22 : decode cX0_makeList 22 = .ok (.aload_n 0, 1) := by decide +kernel
theorem dX0_makeList_23 : decode cX0_makeList 23 = .ok (.iconst 1, 1) := by decide +kernel
theorem dX0_makeList_24 : decode cX0_makeList 24 = .ok (.invokevirtual 127, 3) := by decide +kernel
theorem dX0_makeList_27 : decode cX0_makeList 27 = .ok (.imul, 1) := by decide +kernel
theorem dX0_makeList_28 : decode cX0_makeList 28 = .ok (.istore 6, 2) := by decide +kernel
theorem dX0_makeList_30 : decode cX0_makeList 30 = .ok (.aload_n 0, 1) := by decide +kernel
theorem dX0_makeList_31 : decode cX0_makeList 31 = .ok (.iload 4, 2) := by decide +kernel
theorem dX0_makeList_33 : decode cX0_makeList 33 = .ok (.iload 6, 2) := by decide +kernel
theorem dX0_makeList_35 : decode cX0_makeList 35 = .ok (.invokevirtual 93, 3) := by decide +kernel
theorem dX0_makeList_38 : decode cX0_makeList 38 = .ok (.aload_n 0, 1) := by decide +kernel
theorem dX0_makeList_39 : decode cX0_makeList 39 = .ok (.iload 6, 2) := by decide +kernel
theorem dX0_makeList_41 : decode cX0_makeList 41 = .ok (.iconst 1, 1) := by decide +kernel
theorem dX0_makeList_42 : decode cX0_makeList 42 = .ok (.iadd, 1) := by decide +kernel
theorem dX0_makeList_43 : decode cX0_makeList 43 = .ok (.aload_n 0, 1) := by decide +kernel
theorem dX0_makeList_44 : decode cX0_makeList 44 = .ok (.aload_n 1, 1) := by decide +kernel
theorem dX0_makeList_45 : decode cX0_makeList 45 = .ok (.iload 5, 2) := by decide +kernel
theorem dX0_makeList_47 : decode cX0_makeList 47 = .ok (.iaload, 1) := by decide +kernel
theorem dX0_makeList_48 : decode cX0_makeList 48 = .ok (.invokevirtual 130, 3) := by decide +kernel
theorem dX0_makeList_51 : decode cX0_makeList 51 = .ok (.invokevirtual 93, 3) := by decide +kernel
theorem dX0_makeList_54 : decode cX0_makeList 54 = .ok (.iload 6, 2) := by decide +kernel
theorem dX0_makeList_56 : decode cX0_makeList 56 = .ok (.iconst 2, 1) := by decide +kernel
theorem dX0_makeList_57 : decode cX0_makeList 57 = .ok (.iadd, 1) := by decide +kernel
theorem dX0_makeList_58 : decode cX0_makeList 58 = .ok (.istore 4, 2) := by decide +kernel
theorem dX0_makeList_60 : decode cX0_makeList 60 = .ok (.iload 5, 2) := by decide +kernel
theorem dX0_makeList_62 : decode cX0_makeList 62 = .ok (.ifCond .ne 8, 3) := by decide +kernel
theorem dX0_makeList_65 : decode cX0_makeList 65 = .ok (.iload 6, 2) := by decide +kernel
theorem dX0_makeList_67 : decode cX0_makeList 67 = .ok (.goto 4, 3) := by decide +kernel
theorem dX0_makeList_70 : decode cX0_makeList 70 = .ok (.iload_n 3, 1) := by decide +kernel
theorem dX0_makeList_71 : decode cX0_makeList 71 = .ok (.istore_n 3, 1) := by decide +kernel
theorem dX0_makeList_72 : decode cX0_makeList 72 = .ok (.iinc 5 1, 3) := by decide +kernel
theorem dX0_makeList_75 : decode cX0_makeList 75 = .ok (.goto (-67), 3) := by decide +kernel
theorem dX0_makeList_78 : decode cX0_makeList 78 = .ok (.iconst 3, 1) := by decide +kernel
theorem dX0_makeList_79 : decode cX0_makeList 79 = .ok (.aload_n 0, 1) := by decide +kernel
theorem dX0_makeList_80 : decode cX0_makeList 80 = .ok (.iconst 0, 1) := by decide +kernel
theorem dX0_makeList_81 : decode cX0_makeList 81 = .ok (.invokevirtual 127, 3) := by decide +kernel
theorem dX0_makeList_84 : decode cX0_makeList 84 = .ok (.imul, 1) := by decide +kernel
theorem dX0_makeList_85 : decode cX0_makeList 85 = .ok (.istore 5, 2) := by decide +kernel
theorem dX0_makeList_87 : decode cX0_makeList 87 = .ok (.aload_n 0, 1) := by decide +kernel
theorem dX0_makeList_88 : decode cX0_makeList 88 = .ok (.iload 4, 2) := by decide +kernel
theorem dX0_makeList_90 : decode cX0_makeList 90 = .ok (.iload 5, 2) := by decide +kernel
theorem dX0_makeList_92 : decode cX0_makeList 92 = .ok (.invokevirtual 93, 3) := by decide +kernel
theorem dX0_makeList_95 : decode cX0_makeList 95 = .ok (.iload_n 2, 1) := by decide +kernel
theorem dX0_makeList_96 : decode cX0_makeList 96 = .ok (.ifCond .le 7, 3) := by decide +kernel
theorem dX0_makeList_99 : decode cX0_makeList 99 = .ok (.iload_n 3, 1) := by decide +kernel
theorem dX0_makeList_100 : decode cX0_makeList 100 = .ok (.goto 5, 3) := by decide +kernel
theorem dX0_makeList_103 : decode cX0_makeList 103 = .ok (.iload 5, 2) := by decide +kernel
theorem dX0_makeList_105 : decode cX0_makeList 105 = .ok (.ireturn, 1) := by decide +kernel
set_option maxRecDepth 20000 in
theorem ggX0_numberAt_X0_at : GoodIn wsX0_numberAt wsX0_at := goodIn_r _ [5, 6, 19, 20, 21, 22, 23, 24, 25, 26, 27, 28, 29, 30, 31, 32, 33] (by decide +kernel) (by decide +kernel)
set_option maxRecDepth 20000 in
theorem gX0_numberAt_X0_at : GoodIn wsX0_numberAt (wsV RX0 105 RX0 yX0_at wsX0_at) := goodIn_app (goodIn_of _ (by decide +kernel)) ggX0_numberAt_X0_at
set_option maxRecDepth 20000 in
theorem ggX0_numberAt_X0_kindByHead : GoodIn wsX0_numberAt wsX0_kindByHead := goodIn_r _ [10, 11, 12, 4, 13, 14, 15, 16, 17, 18, 19, 20, 21, 22, 23, 24, 25, 26, 27, 28, 29, 30, 31, 32, 33] (by decide +kernel) (by decide +kernel)
set_option maxRecDepth 20000 in
theorem gX0_numberAt_X0_kindByHead : GoodIn wsX0_numberAt (wsV RX0 133 RX0 yX0_kindByHead wsX0_kindByHead) := goodIn_app (goodIn_of _ (by decide +kernel)) ggX0_numberAt_X0_kindByHead
theorem dX0_numberAt_0 : decode cX0_numberAt 0 = .ok (.aload_n 0, 1) := by decide +kernel
theorem dX0_numberAt_1 : decode cX0_numberAt 1 = .ok (.iload_n 1, 1) := by decide +kernel
theorem dX0_numberAt_2 : decode cX0_numberAt 2 = .ok (.invokevirtual 105, 3) := by decide +kernel
theorem dX0_numberAt_5 : decode cX0_numberAt 5 = .ok (.istore_n 2, 1) := by decide +kernel
theorem dX0_numberAt_6 : decode cX0_numberAt 6 = .ok (.iconst 0, 1) := by decide +kernel
theorem dX0_numberAt_7 : decode cX0_numberAt 7 = .ok (.istore_n 3, 1) := by decide +kernel
theorem dX0_numberAt_8 : decode cX0_numberAt 8 = .ok (.iload_n 3, 1) := by decide +kernel
theorem dX0_numberAt_9 : decode cX0_numberAt 9 = .ok (.sipush 300, 3) := by decide +kernel
theorem dX0_numberAt_12 : decode cX0_numberAt 12 = .ok (.if_icmp .ge 54, 3) := by decide +kernel
theorem dX0_numberAt_15 : decode cX0_numberAt 15 = .ok (.aload_n 0, 1) := by decide +kernel
theorem dX0_numberAt_16 : decode cX0_numberAt 16 = .ok (.iload_n 2, 1) := by decide +kernel
theorem dX0_numberAt_17 : decode cX0_numberAt 17 = .ok (.invokevirtual 133, 3) := by decide +kernel
theorem dX0_numberAt_20 : decode cX0_numberAt 20 = .ok (.istore 4, 2) := by decide +kernel
theorem dX0_numberAt_22 : decode cX0_numberAt 22 = .ok (.iload 4, 2) := by decide +kernel
theorem dX0_numberAt_24 : decode cX0_numberAt 24 = .ok (.ifCond .ne 5, 3) := by decide +kernel
theorem dX0_numberAt_27 : decode cX0_numberAt 27 = .ok (.iload_n 3, 1) := by decide +kernel
theorem dX0_numberAt_28 : decode cX0_numberAt 28 = .ok (.ireturn, 1) := by decide +kernel
theorem dX0_numberAt_29 : decode cX0_numberAt 29 = .ok (.iload 4, 2) := by decide +kernel
theorem dX0_numberAt_31 : decode cX0_numberAt 31 = .ok (.iconst 1, 1) := by decide +kernel
theorem dX0_numberAt_32 : decode cX0_numberAt 32 = .ok (.if_icmp .ne 17, 3) := by decide +kernel
theorem dX0_numberAt_35 : decode cX0_numberAt 35 = .ok (.aload_n 0, 1) := by decide +kernel
theorem dX0_numberAt_36 : decode cX0_numberAt 36 = .ok (.aload_n 0, 1) := by decide +kernel
theorem dX0_numberAt_37 : decode cX0_numberAt 37 = .ok (.iload_n 2, 1) := by decide +kernel
theorem dX0_numberAt_38 : decode cX0_numberAt 38 = .ok (.iconst 1, 1) := by decide +kernel
theorem dX0_numberAt_39 : decode cX0_numberAt 39 = .ok (.iadd, 1) := by decide +kernel
theorem dX0_numberAt_40 : decode cX0_numberAt 40 = .ok (.invokevirtual 105, 3) := by decide +kernel
theorem dX0_numberAt_43 : decode cX0_numberAt 43 = .ok (.invokevirtual 133, 3) := by decide +kernel
theorem dX0_numberAt_46 : decode cX0_numberAt 46 = .ok (.ifCond .eq 6, 3) := by decide +kernel
theorem dX0_numberAt_49 : decode cX0_numberAt 49 = .ok (.bipush (-2), 2) := by decide +kernel
theorem dX0_numberAt_51 : decode cX0_numberAt 51 = .ok (.ireturn, 1) := by decide +kernel
theorem dX0_numberAt_52 : decode cX0_numberAt 52 = .ok (.aload_n 0, 1) := by decide +kernel
theorem dX0_numberAt_53 : decode cX0_numberAt 53 = .ok (.iload_n 2, 1) := by decide +kernel
theorem dX0_numberAt_54 : decode cX0_numberAt 54 = .ok (.iconst 2, 1) := by decide +kernel
theorem dX0_numberAt_55 : decode cX0_numberAt 55 = .ok (.iadd, 1) := by decide +kernel
theorem dX0_numberAt_56 : decode cX0_numberAt 56 = .ok (.invokevirtual 105, 3) := by decide +kernel
theorem dX0_numberAt_59 : decode cX0_numberAt 59 = .ok (.istore_n 2, 1) := by decide +kernel
theorem dX0_numberAt_60 : decode cX0_numberAt 60 = .ok (.iinc 3 1, 3) := by decide +kernel
theorem dX0_numberAt_63 : decode cX0_numberAt 63 = .ok (.goto (-55), 3) := by decide +kernel
theorem dX0_numberAt_66 : decode cX0_numberAt 66 = .ok (.bipush (-2), 2) := by decide +kernel
theorem dX0_numberAt_68 : decode cX0_numberAt 68 = .ok (.ireturn, 1) := by decide +kernel
set_option maxRecDepth 20000 in
theorem ggX0_listAt_X0_at : GoodIn wsX0_listAt wsX0_at := goodIn_r _ [5, 6, 23, 24, 25, 26, 27, 28, 29, 30, 31, 32, 33, 34, 35, 36, 37] (by decide +kernel) (by decide +kernel)
set_option maxRecDepth 20000 in
theorem gX0_listAt_X0_at : GoodIn wsX0_listAt (wsV RX0 105 RX0 yX0_at wsX0_at) := goodIn_app (goodIn_of _ (by decide +kernel)) ggX0_listAt_X0_at
set_option maxRecDepth 20000 in
theorem ggX0_listAt_X0_kindByHead : GoodIn wsX0_listAt wsX0_kindByHead := goodIn_r _ [10, 11, 12, 4, 13, 14, 15, 16, 17, 18, 23, 24, 25, 26, 27, 28, 29, 30, 31, 32, 33, 34, 35, 36, 37] (by decide +kernel) (by decide +kernel)
set_option maxRecDepth 20000 in
theorem gX0_listAt_X0_kindByHead : GoodIn wsX0_listAt (wsV RX0 133 RX0 yX0_kindByHead wsX0_kindByHead) := goodIn_app (goodIn_of _ (by decide +kernel)) ggX0_listAt_X0_kindByHead
set_option maxRecDepth 20000 in
theorem ggX0_listAt_X0_numberAt : GoodIn wsX0_listAt wsX0_numberAt := goodIn_r _ [22, 1, 2, 3, 4, 5, 6, 7, 8, 9, 10, 11, 12, 13, 14, 15, 16, 17, 18, 23, 24, 25, 26, 27, 28, 29, 30, 31, 32, 33, 34, 35, 36, 37] (by decide +kernel) (by decide +kernel)
set_option maxRecDepth 20000 in
theorem gX0_listAt_X0_numberAt : GoodIn wsX0_listAt (wsV RX0 136 RX0 yX0_numberAt wsX0_numberAt) := goodIn_app (goodIn_of _ (by decide +kernel)) ggX0_listAt_X0_numberAt
theorem dX0_listAt_0 : decode cX0_listAt 0 = .ok (.aload_n 0, 1) := by decide +kernel
theorem dX0_listAt_1 : decode cX0_listAt 1 = .ok (.iload_n 1, 1) := by decide +kernel
theorem dX0_listAt_2 : decode cX0_listAt 2 = .ok (.invokevirtual 105, 3) := by decide +kernel
theorem dX0_listAt_5 : decode cX0_listAt 5 = .ok (.istore_n 3, 1) := by decide +kernel
theorem dX0_listAt_6 : decode cX0_listAt 6 = .ok (.bipush (-2), 2) := by decide +kernel
theorem dX0_listAt_8 : decode cX0_listAt 8 = .ok (.istore 4, 2) := by decide +kernel
theorem dX0_listAt_10 : decode cX0_listAt 10 = .ok (.iconst 0, 1) := by decide +kernel
theorem dX0_listAt_11 : decode cX0_listAt 11 = .ok (.istore 5, 2) := by decide +kernel
theorem dX0_listAt_13 : decode cX0_listAt 13 = .ok (.iload 5, 2) := by decide +kernel
theorem dX0_listAt_15 : decode cX0_listAt 15 = .ok (.sipush 300, 3) := by decide +kernel
theorem dX0_listAt_18 : decode cX0_listAt 18 = .ok (.if_icmp .ge 87, 3) := by decide +kernel
theorem dX0_listAt_21 : decode cX0_listAt 21 = .ok (.aload_n 0, 1) := by decide +kernel
theorem dX0_listAt_22 : decode cX0_listAt 22 = .ok (.iload_n 3, 1) := by decide +kernel
theorem dX0_listAt_23 : decode cX0_listAt 23 = .ok (.invokevirtual 133, 3) := by decide +kernel
theorem dX0_listAt_26 : decode cX0_listAt 26 = .ok (.istore 6, 2) := by decide +kernel
theorem dX0_listAt_28 : decode cX0_listAt 28 = .ok (.iload 6, 2) := by decide +kernel
theorem dX0_listAt_30 : decode cX0_listAt 30 = .ok (.ifCond .ne 16, 3) := by decide +kernel
theorem dX0_listAt_33 : decode cX0_listAt 33 = .ok (.iload_n 2, 1) := by decide +kernel
theorem dX0_listAt_34 : decode cX0_listAt 34 = .ok (.iconst (-1), 1) := by decide +kernel
theorem dX0_listAt_35 : decode cX0_listAt 35 = .ok (.if_icmp .ne 8, 3) := by decide +kernel
theorem dX0_listAt_38 : decode cX0_listAt 38 = .ok (.iload 5, 2) := by decide +kernel
theorem dX0_listAt_40 : decode cX0_listAt 40 = .ok (.goto 5, 3) := by decide +kernel
theorem dX0_listAt_43 : decode cX0_listAt 43 = .ok (.iload 4, 2) := by decide +kernel
theorem dX0_listAt_45 : decode cX0_listAt 45 = .ok (.ireturn, 1) := by decide +kernel
theorem dX0_listAt_46 : decode cX0_listAt 46 = .ok (.iload 6, 2) := by decide +kernel
theorem dX0_listAt_48 : decode cX0_listAt 48 = .ok (.iconst 1, 1) := by decide +kernel
theorem dX0_listAt_49 : decode cX0_listAt 49 = .ok (.if_icmp .ne 13, 3) := by decide +kernel
theorem dX0_listAt_52 : decode cX0_listAt 52 = .ok (.aload_n 0, 1) := by decide +kernel
theorem dX0_listAt_53 : decode cX0_listAt 53 = .ok (.iload_n 3, 1) := by decide +kernel
theorem dX0_listAt_54 : decode cX0_listAt 54 = .ok (.iconst 1, 1) := by decide +kernel
theorem dX0_listAt_55 : decode cX0_listAt 55 = .ok (.iadd, 1) := by decide +kernel
theorem dX0_listAt_56 : decode cX0_listAt 56 = .ok (.invokevirtual 136, 3) := by decide +kernel
theorem dX0_listAt_59 : decode cX0_listAt 59 = .ok (.goto 5, 3) := by decide +kernel
theorem dX0_listAt_62 : decode cX0_listAt 62 = .ok (.bipush (-2), 2) := by decide +kernel
theorem dX0_listAt_64 : decode cX0_listAt 64 = .ok (.istore 7, 2) := by decide +kernel
theorem dX0_listAt_66 : decode cX0_listAt 66 = .ok (.iload 7, 2) := by decide +kernel
theorem dX0_listAt_68 : decode cX0_listAt 68 = .ok (.bipush (-2), 2) := by decide +kernel
theorem dX0_listAt_70 : decode cX0_listAt 70 = .ok (.if_icmp .ne 6, 3) := by decide +kernel
theorem dX0_listAt_73 : decode cX0_listAt 73 = .ok (.bipush (-2), 2) := by decide +kernel
theorem dX0_listAt_75 : decode cX0_listAt 75 = .ok (.ireturn, 1) := by decide +kernel
theorem dX0_listAt_76 : decode cX0_listAt 76 = .ok (.iload 5, 2) := by decide +kernel
theorem dX0_listAt_78 : decode cX0_listAt 78 = .ok (.iload_n 2, 1) := by decide +kernel
theorem dX0_listAt_79 : decode cX0_listAt 79 = .ok (.if_icmp .ne 8, 3) := by decide +kernel
theorem dX0_listAt_82 : decode cX0_listAt 82 = .ok (.iload 7, 2) := by decide +kernel
theorem dX0_listAt_84 : decode cX0_listAt 84 = .ok (.goto 5, 3) := by decide +kernel
theorem dX0_listAt_87 : decode cX0_listAt 87 = .ok (.iload 4, 2) := by decide +kernel
theorem dX0_listAt_89 : decode cX0_listAt 89 = .ok (.istore 4, 2) := by decide +kernel
theorem dX0_listAt_91 : decode cX0_listAt 91 = .ok (.aload_n 0, 1) := by decide +kernel
theorem dX0_listAt_92 : decode cX0_listAt 92 = .ok (.iload_n 3, 1) := by decide +kernel
theorem dX0_listAt_93 : decode cX0_listAt 93 = .ok (.iconst 2, 1) := by decide +kernel
theorem dX0_listAt_94 : decode cX0_listAt 94 = .ok (.iadd, 1) := by decide +kernel
theorem dX0_listAt_95 : decode cX0_listAt 95 = .ok (.invokevirtual 105, 3) := by decide +kernel
theorem dX0_listAt_98 : decode cX0_listAt 98 = .ok (.istore_n 3, 1) := by decide +kernel
theorem dX0_listAt_99 : decode cX0_listAt 99 = .ok (.iinc 5 1, 3) := by decide +kernel
theorem dX0_listAt_102 : decode cX0_listAt 102 = .ok (.goto (-89), 3) := by decide +kernel
theorem dX0_listAt_105 : decode cX0_listAt 105 = .ok (.bipush (-2), 2) := by decide +kernel
theorem dX0_listAt_107 : decode cX0_listAt 107 = .ok (.ireturn, 1) := by decide +kernel
set_option maxRecDepth 20000 in
theorem ggX0_kindByHead_X0_isHead : GoodIn wsX0_kindByHead wsX0_isHead := goodIn_r _ [4] (by decide +kernel) (by decide +kernel)
set_option maxRecDepth 20000 in
theorem gX0_kindByHead_X0_isHead : GoodIn wsX0_kindByHead (va_wsS RX0 97 yX0_isHead wsX0_isHead) := goodIn_app (goodIn_of _ (by decide +kernel)) ggX0_kindByHead_X0_isHead
set_option maxRecDepth 20000 in
theorem ggX0_kindByHead_X0_kindOf : GoodIn wsX0_kindByHead wsX0_kindOf := goodIn_r _ [8, 9, 10, 11, 12, 13, 14, 15, 16, 17, 18, 19, 20, 21, 22, 23, 24] (by decide +kernel) (by decide +kernel)
set_option maxRecDepth 20000 in
theorem gX0_kindByHead_X0_kindOf : GoodIn wsX0_kindByHead (wsV RX0 115 RX0 yX0_kindOf wsX0_kindOf) := goodIn_app (goodIn_of _ (by decide +kernel)) ggX0_kindByHead_X0_kindOf
theorem dX0_kindByHead_0 : decode cX0_kindByHead 0 = .ok (.iload_n 1, 1) := by decide +kernel
theorem dX0_kindByHead_1 : decode cX0_kindByHead 1 = .ok (.invokestatic 97, 3) := by decide +kernel
theorem dX0_kindByHead_4 : decode cX0_kindByHead 4 = .ok (.ifCond .eq 13, 3) := by decide +kernel
theorem dX0_kindByHead_7 : decode cX0_kindByHead 7 = .ok (.aload_n 0, 1) := by decide +kernel
theorem dX0_kindByHead_8 : decode cX0_kindByHead 8 = .ok (.iload_n 1, 1) := by decide +kernel
theorem dX0_kindByHead_9 : decode cX0_kindByHead 9 = .ok (.iconst 3, 1) := by decide +kernel
theorem dX0_kindByHead_10 : decode cX0_kindByHead 10 = .ok (.idiv, 1) := by decide +kernel
theorem dX0_kindByHead_11 : decode cX0_kindByHead 11 = .ok (.invokevirtual 115, 3) := by decide +kernel
theorem dX0_kindByHead_14 : decode cX0_kindByHead 14 = .ok (.goto 4, 3) := by decide +kernel
theorem dX0_kindByHead_17 : decode cX0_kindByHead 17 = .ok (.iconst (-1), 1) := by decide +kernel
theorem dX0_kindByHead_18 : decode cX0_kindByHead 18 = .ok (.ireturn, 1) := by decide +kernel
set_option maxRecDepth 20000 in
theorem ggX0_partnerOf_X0_at : GoodIn wsX0_partnerOf wsX0_at := goodIn_r _ [5, 6, 10, 11, 12, 13, 14, 15, 16, 17, 18, 19, 20, 21, 22, 23, 24] (by decide +kernel) (by decide +kernel)
set_option maxRecDepth 20000 in
theorem gX0_partnerOf_X0_at : GoodIn wsX0_partnerOf (wsV RX0 105 RX0 yX0_at wsX0_at) := goodIn_app (goodIn_of _ (by decide +kernel)) ggX0_partnerOf_X0_at
set_option maxRecDepth 20000 in
theorem ggX0_partnerOf_X0_isHead : GoodIn wsX0_partnerOf wsX0_isHead := goodIn_r _ [9] (by decide +kernel) (by decide +kernel)
set_option maxRecDepth 20000 in
theorem gX0_partnerOf_X0_isHead : GoodIn wsX0_partnerOf (va_wsS RX0 97 yX0_isHead wsX0_isHead) := goodIn_app (goodIn_of _ (by decide +kernel)) ggX0_partnerOf_X0_isHead
theorem dX0_partnerOf_0 : decode cX0_partnerOf 0 = .ok (.aload_n 0, 1) := by decide +kernel
theorem dX0_partnerOf_1 : decode cX0_partnerOf 1 = .ok (.iconst 3, 1) := by decide +kernel
theorem dX0_partnerOf_2 : decode cX0_partnerOf 2 = .ok (.iload_n 1, 1) := by decide +kernel
theorem dX0_partnerOf_3 : decode cX0_partnerOf 3 = .ok (.imul, 1) := by decide +kernel
theorem dX0_partnerOf_4 : decode cX0_partnerOf 4 = .ok (.invokevirtual 105, 3) := by decide +kernel
theorem dX0_partnerOf_7 : decode cX0_partnerOf 7 = .ok (.istore_n 2, 1) := by decide +kernel
theorem dX0_partnerOf_8 : decode cX0_partnerOf 8 = .ok (.iload_n 2, 1) := by decide +kernel
theorem dX0_partnerOf_9 : decode cX0_partnerOf 9 = .ok (.invokestatic 97, 3) := by decide +kernel
theorem dX0_partnerOf_12 : decode cX0_partnerOf 12 = .ok (.ifCond .eq 9, 3) := by decide +kernel
theorem dX0_partnerOf_15 : decode cX0_partnerOf 15 = .ok (.iload_n 2, 1) := by decide +kernel
theorem dX0_partnerOf_16 : decode cX0_partnerOf 16 = .ok (.iconst 3, 1) := by decide +kernel
theorem dX0_partnerOf_17 : decode cX0_partnerOf 17 = .ok (.idiv, 1) := by decide +kernel
theorem dX0_partnerOf_18 : decode cX0_partnerOf 18 = .ok (.goto 4, 3) := by decide +kernel
theorem dX0_partnerOf_21 : decode cX0_partnerOf 21 = .ok (.iconst (-1), 1) := by decide +kernel
theorem dX0_partnerOf_22 : decode cX0_partnerOf 22 = .ok (.ireturn, 1) := by decide +kernel
set_option maxRecDepth 20000 in
theorem ggX0_ruleOf_X0_kindOf : GoodIn wsX0_ruleOf wsX0_kindOf := goodIn_r _ [5, 6, 19, 20, 21, 22, 23, 24, 25, 26, 27, 28, 29, 30, 31, 32, 33] (by decide +kernel) (by decide +kernel)
set_option maxRecDepth 20000 in
theorem gX0_ruleOf_X0_kindOf : GoodIn wsX0_ruleOf (wsV RX0 115 RX0 yX0_kindOf wsX0_kindOf) := goodIn_app (goodIn_of _ (by decide +kernel)) ggX0_ruleOf_X0_kindOf
set_option maxRecDepth 20000 in
theorem ggX0_ruleOf_X0_partnerOf : GoodIn wsX0_ruleOf wsX0_partnerOf := goodIn_r _ [10, 11, 12, 13, 4, 14, 15, 16, 17, 18, 19, 20, 21, 22, 23, 24, 25, 26, 27, 28, 29, 30, 31, 32, 33] (by decide +kernel) (by decide +kernel)
set_option maxRecDepth 20000 in
theorem gX0_ruleOf_X0_partnerOf : GoodIn wsX0_ruleOf (wsV RX0 139 RX0 yX0_partnerOf wsX0_partnerOf) := goodIn_app (goodIn_of _ (by decide +kernel)) ggX0_ruleOf_X0_partnerOf
theorem dX0_ruleOf_0 : decode cX0_ruleOf 0 = .ok (.aload_n 0, 1) := by decide +kernel
theorem dX0_ruleOf_1 : decode cX0_ruleOf 1 = .ok (.iload_n 1, 1) := by decide +kernel
theorem dX0_ruleOf_2 : decode cX0_ruleOf 2 = .ok (.invokevirtual 115, 3) := by decide +kernel
theorem dX0_ruleOf_5 : decode cX0_ruleOf 5 = .ok (.istore_n 2, 1) := by decide +kernel
theorem dX0_ruleOf_6 : decode cX0_ruleOf 6 = .ok (.aload_n 0, 1) := by decide +kernel
theorem dX0_ruleOf_7 : decode cX0_ruleOf 7 = .ok (.aload_n 0, 1) := by decide +kernel
theorem dX0_ruleOf_8 : decode cX0_ruleOf 8 = .ok (.iload_n 1, 1) := by decide +kernel
theorem dX0_ruleOf_9 : decode cX0_ruleOf 9 = .ok (.invokevirtual 139, 3) := by decide +kernel
theorem dX0_ruleOf_12 : decode cX0_ruleOf 12 = .ok (.invokevirtual 115, 3) := by decide +kernel
theorem dX0_ruleOf_15 : decode cX0_ruleOf 15 = .ok (.istore_n 3, 1) := by decide +kernel
theorem dX0_ruleOf_16 : decode cX0_ruleOf 16 = .ok (.iload_n 2, 1) := by decide +kernel
theorem dX0_ruleOf_17 : decode cX0_ruleOf 17 = .ok (.iload_n 3, 1) := by decide +kernel
theorem dX0_ruleOf_18 : decode cX0_ruleOf 18 = .ok (.if_icmp .ne 7, 3) := by decide +kernel
theorem dX0_ruleOf_21 : decode cX0_ruleOf 21 = .ok (.iload_n 2, 1) := by decide +kernel
theorem dX0_ruleOf_22 : decode cX0_ruleOf 22 = .ok (.goto 8, 3) := by decide +kernel
theorem dX0_ruleOf_25 : decode cX0_ruleOf 25 = .ok (.iload_n 2, 1) := by decide +kernel
theorem dX0_ruleOf_26 : decode cX0_ruleOf 26 = .ok (.iload_n 3, 1) := by decide +kernel
theorem dX0_ruleOf_27 : decode cX0_ruleOf 27 = .ok (.iadd, 1) := by decide +kernel
theorem dX0_ruleOf_28 : decode cX0_ruleOf 28 = .ok (.iconst 2, 1) := by decide +kernel
theorem dX0_ruleOf_29 : decode cX0_ruleOf 29 = .ok (.iadd, 1) := by decide +kernel
theorem dX0_ruleOf_30 : decode cX0_ruleOf 30 = .ok (.ireturn, 1) := by decide +kernel
set_option maxRecDepth 20000 in
theorem ggX0_canGo_X0_ruleOf : GoodIn wsX0_canGo wsX0_ruleOf := goodIn_r _ [5, 6, 7, 8, 4, 9, 10, 11, 12, 13, 14, 15, 16, 17, 18, 19, 20, 21, 22, 29, 30, 31, 32, 33, 34, 35, 36, 37, 38, 39, 40, 41, 42, 43] (by decide +kernel) (by decide +kernel)
set_option maxRecDepth 20000 in
theorem gX0_canGo_X0_ruleOf : GoodIn wsX0_canGo (wsV RX0 142 RX0 yX0_ruleOf wsX0_ruleOf) := goodIn_app (goodIn_of _ (by decide +kernel)) ggX0_canGo_X0_ruleOf
set_option maxRecDepth 20000 in
theorem ggX0_canGo_X0_hasRoom : GoodIn wsX0_canGo wsX0_hasRoom := goodIn_r _ [26, 27, 28, 29, 30, 31, 32, 33, 34, 35, 36, 37, 38, 39, 40, 41, 42, 43] (by decide +kernel) (by decide +kernel)
set_option maxRecDepth 20000 in
theorem gX0_canGo_X0_hasRoom : GoodIn wsX0_canGo (wsV RX0 145 RX0 yX0_hasRoom wsX0_hasRoom) := goodIn_app (goodIn_of _ (by decide +kernel)) ggX0_canGo_X0_hasRoom
theorem dX0_canGo_0 : decode cX0_canGo 0 = .ok (.aload_n 0, 1) := by decide +kernel
theorem dX0_canGo_1 : decode cX0_canGo 1 = .ok (.iload_n 1, 1) := by decide +kernel
theorem dX0_canGo_2 : decode cX0_canGo 2 = .ok (.invokevirtual 142, 3) := by decide +kernel
theorem dX0_canGo_5 : decode cX0_canGo 5 = .ok (.iconst 5, 1) := by decide +kernel
theorem dX0_canGo_6 : decode cX0_canGo 6 = .ok (.if_icmp .ne 11, 3) := by decide +kernel
theorem dX0_canGo_9 : decode cX0_canGo 9 = .ok (.aload_n 0, 1) := by decide +kernel
theorem dX0_canGo_10 : decode cX0_canGo 10 = .ok (.iconst 2, 1) := by decide +kernel
theorem dX0_canGo_11 : decode cX0_canGo 11 = .ok (.invokevirtual 145, 3) := by decide +kernel
theorem dX0_canGo_14 : decode cX0_canGo 14 = .ok (.ifCond .eq 7, 3) := by decide +kernel
theorem dX0_canGo_17 : decode cX0_canGo 17 = .ok (.iconst 1, 1) := by decide +kernel
theorem dX0_canGo_18 : decode cX0_canGo 18 = .ok (.goto 4, 3) := by decide +kernel
theorem dX0_canGo_21 : decode cX0_canGo 21 = .ok (.iconst 0, 1) := by decide +kernel
theorem dX0_canGo_22 : decode cX0_canGo 22 = .ok (.ireturn, 1) := by decide +kernel
set_option maxRecDepth 20000 in
theorem ggX0_readyPairs_X0_hasRoom : GoodIn wsX0_readyPairs wsX0_hasRoom := goodIn_r _ [6, 7, 8, 27, 28, 29, 30, 31, 32, 33, 34, 35, 36, 37, 38, 39, 40, 41] (by decide +kernel) (by decide +kernel)
set_option maxRecDepth 20000 in
theorem gX0_readyPairs_X0_hasRoom : GoodIn wsX0_readyPairs (wsV RX0 145 RX0 yX0_hasRoom wsX0_hasRoom) := goodIn_app (goodIn_of _ (by decide +kernel)) ggX0_readyPairs_X0_hasRoom
set_option maxRecDepth 20000 in
theorem ggX0_readyPairs_X1_size : GoodIn wsX0_readyPairs wsX1_size := goodIn_r _ [13, 14, 15, 16, 12, 17, 18, 19, 20, 21, 22, 23, 24, 25, 26, 42, 43] (by decide +kernel) (by decide +kernel)
set_option maxRecDepth 20000 in
theorem gX0_readyPairs_X1_size : GoodIn wsX0_readyPairs (wsV RX0 148 RX1 yX1_size wsX1_size) := goodIn_app (goodIn_of _ (by decide +kernel)) ggX0_readyPairs_X1_size
theorem dX0_readyPairs_0 : decode cX0_readyPairs 0 = .ok (.aload_n 0, 1) := by decide +kernel
theorem dX0_readyPairs_1 : decode cX0_readyPairs 1 = .ok (.getfield 24, 3) := by decide +kernel
theorem dX0_readyPairs_4 : decode cX0_readyPairs 4 = .ok (.aload_n 0, 1) := by decide +kernel
theorem dX0_readyPairs_5 : decode cX0_readyPairs 5 = .ok (.iconst 2, 1) := by decide +kernel
theorem dX0_readyPairs_6 : decode cX0_readyPairs 6 = .ok (.invokevirtual 145, 3) := by decide +kernel
theorem dX0_readyPairs_9 : decode cX0_readyPairs 9 = .ok (.invokevirtual 148, 3) := by decide +kernel
theorem dX0_readyPairs_12 : decode cX0_readyPairs 12 = .ok (.ireturn, 1) := by decide +kernel
set_option maxRecDepth 20000 in
theorem ggX0_rewrite_X0_partnerOf : GoodIn wsX0_rewrite wsX0_partnerOf := goodIn_r _ [7, 8, 9, 10, 6, 11, 12, 13, 14, 15, 89, 90, 91, 92, 93, 94, 95, 96, 97, 98, 99, 100, 101, 102, 103] (by decide +kernel) (by decide +kernel)
set_option maxRecDepth 20000 in
theorem gX0_rewrite_X0_partnerOf : GoodIn wsX0_rewrite (wsV RX0 139 RX0 yX0_partnerOf wsX0_partnerOf) := goodIn_app (goodIn_of _ (by decide +kernel)) ggX0_rewrite_X0_partnerOf
set_option maxRecDepth 20000 in
theorem ggX0_rewrite_X0_ruleOf : GoodIn wsX0_rewrite wsX0_ruleOf := goodIn_r _ [19, 20, 21, 22, 6, 23, 24, 3, 4, 5, 7, 8, 9, 10, 11, 12, 13, 14, 15, 89, 90, 91, 92, 93, 94, 95, 96, 97, 98, 99, 100, 101, 102, 103] (by decide +kernel) (by decide +kernel)
set_option maxRecDepth 20000 in
theorem gX0_rewrite_X0_ruleOf : GoodIn wsX0_rewrite (wsV RX0 142 RX0 yX0_ruleOf wsX0_ruleOf) := goodIn_app (goodIn_of _ (by decide +kernel)) ggX0_rewrite_X0_ruleOf
set_option maxRecDepth 20000 in
theorem ggX0_rewrite_X0_kindOf : GoodIn wsX0_rewrite wsX0_kindOf := goodIn_r _ [23, 24, 89, 90, 91, 92, 93, 94, 95, 96, 97, 98, 99, 100, 101, 102, 103] (by decide +kernel) (by decide +kernel)
set_option maxRecDepth 20000 in
theorem gX0_rewrite_X0_kindOf : GoodIn wsX0_rewrite (wsV RX0 115 RX0 yX0_kindOf wsX0_kindOf) := goodIn_app (goodIn_of _ (by decide +kernel)) ggX0_rewrite_X0_kindOf
set_option maxRecDepth 20000 in
theorem ggX0_rewrite_X1_remove : GoodIn wsX0_rewrite wsX1_remove := goodIn_r _ [29, 30, 31, 32, 104, 105] (by decide +kernel) (by decide +kernel)
set_option maxRecDepth 20000 in
theorem gX0_rewrite_X1_remove : GoodIn wsX0_rewrite (wsV RX0 152 RX1 yX1_remove wsX1_remove) := goodIn_app (goodIn_of _ (by decide +kernel)) ggX0_rewrite_X1_remove
set_option maxRecDepth 20000 in
theorem ggX0_rewrite_X0_moveToWires : GoodIn wsX0_rewrite wsX0_moveToWires := goodIn_r _ [36, 20, 21, 22, 6, 23, 24, 37, 38, 39, 40, 8, 9, 10, 11, 12, 41, 42, 43, 44, 1, 45, 46, 47, 48, 49, 50, 51, 52, 13, 14, 15, 53, 54, 55, 28, 56, 32, 31, 89, 90, 91, 92, 93, 94, 95, 96, 97, 98, 99, 100, 101, 102, 103, 104, 105] (by decide +kernel) (by decide +kernel)
set_option maxRecDepth 20000 in
theorem gX0_rewrite_X0_moveToWires : GoodIn wsX0_rewrite (wsV RX0 155 RX0 yX0_moveToWires wsX0_moveToWires) := goodIn_app (goodIn_of _ (by decide +kernel)) ggX0_rewrite_X0_moveToWires
set_option maxRecDepth 20000 in
theorem ggX0_rewrite_X0_free : GoodIn wsX0_rewrite wsX0_free := goodIn_r _ [60, 61, 24, 62, 63, 64, 20, 21, 22, 6, 23, 89, 90, 91, 92, 93, 94, 95, 96, 97, 98, 99, 100, 101, 102, 103] (by decide +kernel) (by decide +kernel)
set_option maxRecDepth 20000 in
theorem gX0_rewrite_X0_free : GoodIn wsX0_rewrite (wsV RX0 158 RX0 yX0_free wsX0_free) := goodIn_app (goodIn_of _ (by decide +kernel)) ggX0_rewrite_X0_free
set_option maxRecDepth 20000 in
theorem ggX0_rewrite_X0_splice : GoodIn wsX0_rewrite wsX0_splice := goodIn_r _ [68, 69, 8, 9, 10, 6, 11, 12, 41, 42, 43, 44, 1, 45, 46, 47, 48, 24, 49, 50, 51, 52, 13, 14, 15, 53, 54, 55, 28, 56, 32, 31, 89, 90, 91, 92, 93, 94, 95, 96, 97, 98, 99, 100, 101, 102, 103, 104, 105] (by decide +kernel) (by decide +kernel)
set_option maxRecDepth 20000 in
theorem gX0_rewrite_X0_splice : GoodIn wsX0_rewrite (wsV RX0 124 RX0 yX0_splice wsX0_splice) := goodIn_app (goodIn_of _ (by decide +kernel)) ggX0_rewrite_X0_splice
set_option maxRecDepth 20000 in
theorem ggX0_rewrite_X0_commute : GoodIn wsX0_rewrite wsX0_commute := goodIn_r _ [73, 74, 75, 76, 6, 77, 61, 78, 24, 64, 79, 80, 81, 82, 83, 84, 62, 49, 50, 51, 52, 12, 37, 38, 39, 40, 8, 9, 10, 11, 41, 42, 43, 44, 1, 45, 46, 47, 48, 13, 14, 15, 53, 54, 55, 28, 56, 32, 31, 89, 90, 91, 92, 93, 94, 95, 96, 97, 98, 99, 100, 101, 102, 103, 104, 105] (by decide +kernel) (by decide +kernel)
set_option maxRecDepth 20000 in
theorem gX0_rewrite_X0_commute : GoodIn wsX0_rewrite (wsV RX0 161 RX0 yX0_commute wsX0_commute) := goodIn_app (goodIn_of _ (by decide +kernel)) ggX0_rewrite_X0_commute
set_option maxRecDepth 20000 in
theorem ggX0_rewrite_X0_erase : GoodIn wsX0_rewrite wsX0_erase := goodIn_r _ [88, 74, 75, 76, 6, 77, 61, 78, 24, 64, 79, 80, 81, 82, 83, 84, 62, 37, 38, 39, 40, 8, 9, 10, 11, 12, 41, 42, 43, 44, 1, 45, 46, 47, 48, 49, 50, 51, 52, 13, 14, 15, 53, 54, 55, 28, 56, 32, 31, 89, 90, 91, 92, 93, 94, 95, 96, 97, 98, 99, 100, 101, 102, 103, 104, 105] (by decide +kernel) (by decide +kernel)
set_option maxRecDepth 20000 in
theorem gX0_rewrite_X0_erase : GoodIn wsX0_rewrite (wsV RX0 164 RX0 yX0_erase wsX0_erase) := goodIn_app (goodIn_of _ (by decide +kernel)) ggX0_rewrite_X0_erase
theorem dX0_rewrite_0 : decode cX0_rewrite 0 = .ok (.aload_n 0, 1) := by decide +kernel
theorem dX0_rewrite_1 : decode cX0_rewrite 1 = .ok (.iload_n 1, 1) := by decide +kernel
theorem dX0_rewrite_2 : decode cX0_rewrite 2 = .ok (.invokevirtual 139, 3) := by decide +kernel
theorem dX0_rewrite_5 : decode cX0_rewrite 5 = .ok (.istore_n 2, 1) := by decide +kernel
theorem dX0_rewrite_6 : decode cX0_rewrite 6 = .ok (.aload_n 0, 1) := by decide +kernel
theorem dX0_rewrite_7 : decode cX0_rewrite 7 = .ok (.iload_n 1, 1) := by decide +kernel
theorem dX0_rewrite_8 : decode cX0_rewrite 8 = .ok (.invokevirtual 142, 3) := by decide +kernel
theorem dX0_rewrite_11 : decode cX0_rewrite 11 = .ok (.istore_n 3, 1) := by decide +kernel
theorem dX0_rewrite_12 : decode cX0_rewrite 12 = .ok (.aload_n 0, 1) := by decide +kernel
theorem dX0_rewrite_13 : decode cX0_rewrite 13 = .ok (.iload_n 1, 1) := by decide +kernel
theorem dX0_rewrite_14 : decode cX0_rewrite 14 = .ok (.invokevirtual 115, 3) := by decide +kernel
theorem dX0_rewrite_17 : decode cX0_rewrite 17 = .ok (.istore 4, 2) := by decide +kernel
theorem dX0_rewrite_19 : decode cX0_rewrite 19 = .ok (.aload_n 0, 1) := by decide +kernel
theorem dX0_rewrite_20 : decode cX0_rewrite 20 = .ok (.iload_n 2, 1) := by decide +kernel
theorem dX0_rewrite_21 : decode cX0_rewrite 21 = .ok (.invokevirtual 115, 3) := by decide +kernel
theorem dX0_rewrite_24 : decode cX0_rewrite 24 = .ok (.istore 5, 2) := by decide +kernel
theorem dX0_rewrite_26 : decode cX0_rewrite 26 = .ok (.aload_n 0, 1) := by decide +kernel
theorem dX0_rewrite_27 : decode cX0_rewrite 27 = .ok (.getfield 24, 3) := by decide +kernel
theorem dX0_rewrite_30 : decode cX0_rewrite 30 = .ok (.iload_n 1, 1) := by decide +kernel
theorem dX0_rewrite_31 : decode cX0_rewrite 31 = .ok (.invokevirtual 152, 3) := by decide +kernel
theorem dX0_rewrite_34 : decode cX0_rewrite 34 = .ok (.aload_n 0, 1) := by decide +kernel
theorem dX0_rewrite_35 : decode cX0_rewrite 35 = .ok (.iload_n 1, 1) := by decide +kernel
theorem dX0_rewrite_36 : decode cX0_rewrite 36 = .ok (.sipush 1016, 3) := by decide +kernel
theorem dX0_rewrite_39 : decode cX0_rewrite 39 = .ok (.invokevirtual 155, 3) := by decide +kernel
theorem dX0_rewrite_42 : decode cX0_rewrite 42 = .ok (.aload_n 0, 1) := by decide +kernel
theorem dX0_rewrite_43 : decode cX0_rewrite 43 = .ok (.iload_n 2, 1) := by decide +kernel
theorem dX0_rewrite_44 : decode cX0_rewrite 44 = .ok (.sipush 1018, 3) := by decide +kernel
theorem dX0_rewrite_47 : decode cX0_rewrite 47 = .ok (.invokevirtual 155, 3) := by decide +kernel
theorem dX0_rewrite_50 : decode cX0_rewrite 50 = .ok (.aload_n 0, 1) := by decide +kernel
theorem dX0_rewrite_51 : decode cX0_rewrite 51 = .ok (.iload_n 1, 1) := by decide +kernel
theorem dX0_rewrite_52 : decode cX0_rewrite 52 = .ok (.invokevirtual 158, 3) := by decide +kernel
theorem dX0_rewrite_55 : decode cX0_rewrite 55 = .ok (.aload_n 0, 1) := by decide +kernel
theorem dX0_rewrite_56 : decode cX0_rewrite 56 = .ok (.iload_n 2, 1) := by decide +kernel
theorem dX0_rewrite_57 : decode cX0_rewrite 57 = .ok (.invokevirtual 158, 3) := by decide +kernel
theorem dX0_rewrite_60 : decode cX0_rewrite 60 = .ok (.iload 4, 2) := by decide +kernel
theorem dX0_rewrite_62 : decode cX0_rewrite 62 = .ok (.iload 5, 2) := by decide +kernel
theorem dX0_rewrite_64 : decode cX0_rewrite 64 = .ok (.if_icmp .ne 31, 3) := by decide +kernel
theorem dX0_rewrite_67 : decode cX0_rewrite 67 = .ok (.iload 4, 2) := by decide +kernel
theorem dX0_rewrite_69 : decode cX0_rewrite 69 = .ok (.ifCond .eq 86, 3) := by decide +kernel
theorem dX0_rewrite_72 : decode cX0_rewrite 72 = .ok (.aload_n 0, 1) := by decide +kernel
theorem dX0_rewrite_73 : decode cX0_rewrite 73 = .ok (.sipush 1016, 3) := by decide +kernel
theorem dX0_rewrite_76 : decode cX0_rewrite 76 = .ok (.sipush 1018, 3) := by decide +kernel
theorem dX0_rewrite_79 : decode cX0_rewrite 79 = .ok (.invokevirtual 124, 3) := by decide +kernel
theorem dX0_rewrite_82 : decode cX0_rewrite 82 = .ok (.aload_n 0, 1) := by decide +kernel
theorem dX0_rewrite_83 : decode cX0_rewrite 83 = .ok (.sipush 1017, 3) := by decide +kernel
theorem dX0_rewrite_86 : decode cX0_rewrite 86 = .ok (.sipush 1019, 3) := by decide +kernel
theorem dX0_rewrite_89 : decode cX0_rewrite 89 = .ok (.invokevirtual 124, 3) := by decide +kernel
theorem dX0_rewrite_92 : decode cX0_rewrite 92 = .ok (.goto 63, 3) := by decide +kernel
theorem dX0_rewrite_95 : decode cX0_rewrite 95 = .ok (.iload_n 3, 1) := by decide +kernel
theorem dX0_rewrite_96 : decode cX0_rewrite 96 = .ok (.iconst 5, 1) := by decide +kernel
theorem dX0_rewrite_97 : decode cX0_rewrite 97 = .ok (.if_icmp .ne 40, 3) := by decide +kernel
theorem dX0_rewrite_100 : decode cX0_rewrite 100 = .ok (.aload_n 0, 1) := by decide +kernel
theorem dX0_rewrite_101 : decode cX0_rewrite 101 = .ok (.iload 4, 2) := by decide +kernel
theorem dX0_rewrite_103 : decode cX0_rewrite 103 = .ok (.iconst 1, 1) := by decide +kernel
theorem dX0_rewrite_104 : decode cX0_rewrite 104 = .ok (.if_icmp .ne 9, 3) := by decide +kernel
theorem dX0_rewrite_107 : decode cX0_rewrite 107 = .ok (.sipush 1016, 3) := by decide +kernel
theorem dX0_rewrite_110 : decode cX0_rewrite 110 = .ok (.goto 6, 3) := by decide +kernel
theorem dX0_rewrite_113 : decode cX0_rewrite 113 = .ok (.sipush 1018, 3) := by decide +kernel
theorem dX0_rewrite_116 : decode cX0_rewrite 116 = .ok (.iload 4, 2) := by decide +kernel
theorem dX0_rewrite_118 : decode cX0_rewrite 118 = .ok (.iconst 2, 1) := by decide +kernel
theorem dX0_rewrite_119 : decode cX0_rewrite 119 = .ok (.if_icmp .ne 9, 3) := by decide +kernel
theorem dX0_rewrite_122 : decode cX0_rewrite 122 = .ok (.sipush 1016, 3) := by decide +kernel
theorem dX0_rewrite_125 : decode cX0_rewrite 125 = .ok (.goto 6, 3) := by decide +kernel
theorem dX0_rewrite_128 : decode cX0_rewrite 128 = .ok (.sipush 1018, 3) := by decide +kernel
theorem dX0_rewrite_131 : decode cX0_rewrite 131 = .ok (.invokevirtual 161, 3) := by decide +kernel
theorem dX0_rewrite_134 : decode cX0_rewrite 134 = .ok (.goto 21, 3) := by decide +kernel
theorem dX0_rewrite_137 : decode cX0_rewrite 137 = .ok (.aload_n 0, 1) := by decide +kernel
theorem dX0_rewrite_138 : decode cX0_rewrite 138 = .ok (.iload 4, 2) := by decide +kernel
theorem dX0_rewrite_140 : decode cX0_rewrite 140 = .ok (.ifCond .ne 9, 3) := by decide +kernel
theorem dX0_rewrite_143 : decode cX0_rewrite 143 = .ok (.sipush 1018, 3) := by decide +kernel
theorem dX0_rewrite_146 : decode cX0_rewrite 146 = .ok (.goto 6, 3) := by decide +kernel
theorem dX0_rewrite_149 : decode cX0_rewrite 149 = .ok (.sipush 1016, 3) := by decide +kernel
theorem dX0_rewrite_152 : decode cX0_rewrite 152 = .ok (.invokevirtual 164, 3) := by decide +kernel
theorem dX0_rewrite_155 : decode cX0_rewrite 155 = .ok (.iload_n 3, 1) := by decide +kernel
theorem dX0_rewrite_156 : decode cX0_rewrite 156 = .ok (.ifCond .lt 19, 3) := by decide +kernel
theorem dX0_rewrite_159 : decode cX0_rewrite 159 = .ok (.iload_n 3, 1) := by decide +kernel
theorem dX0_rewrite_160 : decode cX0_rewrite 160 = .ok (.bipush 6, 2) := by decide +kernel
theorem dX0_rewrite_162 : decode cX0_rewrite 162 = .ok (.if_icmp .ge 13, 3) := by decide +kernel
theorem dX0_rewrite_165 : decode cX0_rewrite 165 = .ok (.aload_n 0, 1) := by decide +kernel
theorem dX0_rewrite_166 : decode cX0_rewrite 166 = .ok (.getfield 18, 3) := by decide +kernel
theorem dX0_rewrite_169 : decode cX0_rewrite 169 = .ok (.iload_n 3, 1) := by decide +kernel
theorem dX0_rewrite_170 : decode cX0_rewrite 170 = .ok (.dup2, 1) := by decide +kernel
theorem dX0_rewrite_171 : decode cX0_rewrite 171 = .ok (.iaload, 1) := by decide +kernel
theorem dX0_rewrite_172 : decode cX0_rewrite 172 = .ok (.iconst 1, 1) := by decide +kernel
theorem dX0_rewrite_173 : decode cX0_rewrite 173 = .ok (.iadd, 1) := by decide +kernel
theorem dX0_rewrite_174 : decode cX0_rewrite 174 = .ok (.iastore, 1) := by decide +kernel
theorem dX0_rewrite_175 : decode cX0_rewrite 175 = .ok (.iload_n 3, 1) := by decide +kernel
theorem dX0_rewrite_176 : decode cX0_rewrite 176 = .ok (.ireturn, 1) := by decide +kernel
set_option maxRecDepth 20000 in
theorem ggX0_moveToWires_X0_kindOf : GoodIn wsX0_moveToWires wsX0_kindOf := goodIn_r _ [5, 6, 39, 40, 41, 42, 43, 44, 45, 46, 47, 48, 49, 50, 51, 52, 53] (by decide +kernel) (by decide +kernel)
set_option maxRecDepth 20000 in
theorem gX0_moveToWires_X0_kindOf : GoodIn wsX0_moveToWires (wsV RX0 115 RX0 yX0_kindOf wsX0_kindOf) := goodIn_app (goodIn_of _ (by decide +kernel)) ggX0_moveToWires_X0_kindOf
set_option maxRecDepth 20000 in
theorem ggX0_moveToWires_X0_move : GoodIn wsX0_moveToWires wsX0_move := goodIn_r _ [10, 11, 12, 13, 4, 14, 15, 16, 17, 18, 19, 20, 21, 22, 23, 24, 6, 25, 26, 27, 28, 29, 30, 31, 32, 33, 34, 35, 36, 37, 38, 39, 40, 41, 42, 43, 44, 45, 46, 47, 48, 49, 50, 51, 52, 53, 54, 55] (by decide +kernel) (by decide +kernel)
set_option maxRecDepth 20000 in
theorem gX0_moveToWires_X0_move : GoodIn wsX0_moveToWires (wsV RX0 121 RX0 yX0_move wsX0_move) := goodIn_app (goodIn_of _ (by decide +kernel)) ggX0_moveToWires_X0_move
theorem dX0_moveToWires_0 : decode cX0_moveToWires 0 = .ok (.aload_n 0, 1) := by decide +kernel
theorem dX0_moveToWires_1 : decode cX0_moveToWires 1 = .ok (.iload_n 1, 1) := by decide +kernel
theorem dX0_moveToWires_2 : decode cX0_moveToWires 2 = .ok (.invokevirtual 115, 3) := by decide +kernel
theorem dX0_moveToWires_5 : decode cX0_moveToWires 5 = .ok (.ifCond .eq 25, 3) := by decide +kernel
theorem dX0_moveToWires_8 : decode cX0_moveToWires 8 = .ok (.aload_n 0, 1) := by decide +kernel
theorem dX0_moveToWires_9 : decode cX0_moveToWires 9 = .ok (.iconst 3, 1) := by decide +kernel
theorem dX0_moveToWires_10 : decode cX0_moveToWires 10 = .ok (.iload_n 1, 1) := by decide +kernel
theorem dX0_moveToWires_11 : decode cX0_moveToWires 11 = .ok (.imul, 1) := by decide +kernel
theorem dX0_moveToWires_12 : decode cX0_moveToWires 12 = .ok (.iconst 1, 1) := by decide +kernel
theorem dX0_moveToWires_13 : decode cX0_moveToWires 13 = .ok (.iadd, 1) := by decide +kernel
theorem dX0_moveToWires_14 : decode cX0_moveToWires 14 = .ok (.iload_n 2, 1) := by decide +kernel
theorem dX0_moveToWires_15 : decode cX0_moveToWires 15 = .ok (.invokevirtual 121, 3) := by decide +kernel
theorem dX0_moveToWires_18 : decode cX0_moveToWires 18 = .ok (.aload_n 0, 1) := by decide +kernel
theorem dX0_moveToWires_19 : decode cX0_moveToWires 19 = .ok (.iconst 3, 1) := by decide +kernel
theorem dX0_moveToWires_20 : decode cX0_moveToWires 20 = .ok (.iload_n 1, 1) := by decide +kernel
theorem dX0_moveToWires_21 : decode cX0_moveToWires 21 = .ok (.imul, 1) := by decide +kernel
theorem dX0_moveToWires_22 : decode cX0_moveToWires 22 = .ok (.iconst 2, 1) := by decide +kernel
theorem dX0_moveToWires_23 : decode cX0_moveToWires 23 = .ok (.iadd, 1) := by decide +kernel
theorem dX0_moveToWires_24 : decode cX0_moveToWires 24 = .ok (.iload_n 2, 1) := by decide +kernel
theorem dX0_moveToWires_25 : decode cX0_moveToWires 25 = .ok (.iconst 1, 1) := by decide +kernel
theorem dX0_moveToWires_26 : decode cX0_moveToWires 26 = .ok (.iadd, 1) := by decide +kernel
theorem dX0_moveToWires_27 : decode cX0_moveToWires 27 = .ok (.invokevirtual 121, 3) := by decide +kernel
theorem dX0_moveToWires_30 : decode cX0_moveToWires 30 = .ok (.return_, 1) := by decide +kernel
set_option maxRecDepth 20000 in
theorem ggX0_erase_X0_make : GoodIn wsX0_erase wsX0_make := goodIn_r _ [5, 6, 7, 8, 9, 10, 11, 12, 13, 4, 14, 15, 16, 49, 50, 51, 52, 53, 54, 55, 56, 57, 58, 59, 60, 61, 62, 63] (by decide +kernel) (by decide +kernel)
set_option maxRecDepth 20000 in
theorem gX0_erase_X0_make : GoodIn wsX0_erase (wsV RX0 127 RX0 yX0_make wsX0_make) := goodIn_app (goodIn_of _ (by decide +kernel)) ggX0_erase_X0_make
set_option maxRecDepth 20000 in
theorem ggX0_erase_X0_move : GoodIn wsX0_erase wsX0_move := goodIn_r _ [20, 21, 22, 23, 4, 24, 25, 26, 27, 28, 29, 30, 31, 32, 33, 34, 8, 35, 36, 37, 38, 39, 40, 41, 42, 43, 44, 45, 46, 47, 48, 49, 50, 51, 52, 53, 54, 55, 56, 57, 58, 59, 60, 61, 62, 63, 64, 65] (by decide +kernel) (by decide +kernel)
set_option maxRecDepth 20000 in
theorem gX0_erase_X0_move : GoodIn wsX0_erase (wsV RX0 121 RX0 yX0_move wsX0_move) := goodIn_app (goodIn_of _ (by decide +kernel)) ggX0_erase_X0_move
theorem dX0_erase_0 : decode cX0_erase 0 = .ok (.aload_n 0, 1) := by decide +kernel
theorem dX0_erase_1 : decode cX0_erase 1 = .ok (.iconst 0, 1) := by decide +kernel
theorem dX0_erase_2 : decode cX0_erase 2 = .ok (.invokevirtual 127, 3) := by decide +kernel
theorem dX0_erase_5 : decode cX0_erase 5 = .ok (.istore_n 2, 1) := by decide +kernel
theorem dX0_erase_6 : decode cX0_erase 6 = .ok (.aload_n 0, 1) := by decide +kernel
theorem dX0_erase_7 : decode cX0_erase 7 = .ok (.iconst 0, 1) := by decide +kernel
theorem dX0_erase_8 : decode cX0_erase 8 = .ok (.invokevirtual 127, 3) := by decide +kernel
theorem dX0_erase_11 : decode cX0_erase 11 = .ok (.istore_n 3, 1) := by decide +kernel
theorem dX0_erase_12 : decode cX0_erase 12 = .ok (.aload_n 0, 1) := by decide +kernel
theorem dX0_erase_13 : decode cX0_erase 13 = .ok (.iload_n 1, 1) := by decide +kernel
theorem dX0_erase_14 : decode cX0_erase 14 = .ok (.iconst 3, 1) := by decide +kernel
theorem dX0_erase_15 : decode cX0_erase 15 = .ok (.iload_n 2, 1) := by decide +kernel
theorem dX0_erase_16 : decode cX0_erase 16 = .ok (.imul, 1) := by decide +kernel
theorem dX0_erase_17 : decode cX0_erase 17 = .ok (.invokevirtual 121, 3) := by decide +kernel
theorem dX0_erase_20 : decode cX0_erase 20 = .ok (.aload_n 0, 1) := by decide +kernel
theorem dX0_erase_21 : decode cX0_erase 21 = .ok (.iload_n 1, 1) := by decide +kernel
theorem dX0_erase_22 : decode cX0_erase 22 = .ok (.iconst 1, 1) := by decide +kernel
theorem dX0_erase_23 : decode cX0_erase 23 = .ok (.iadd, 1) := by decide +kernel
theorem dX0_erase_24 : decode cX0_erase 24 = .ok (.iconst 3, 1) := by decide +kernel
theorem dX0_erase_25 : decode cX0_erase 25 = .ok (.iload_n 3, 1) := by decide +kernel
theorem dX0_erase_26 : decode cX0_erase 26 = .ok (.imul, 1) := by decide +kernel
theorem dX0_erase_27 : decode cX0_erase 27 = .ok (.invokevirtual 121, 3) := by decide +kernel
theorem dX0_erase_30 : decode cX0_erase 30 = .ok (.return_, 1) := by decide +kernel
set_option maxRecDepth 20000 in
theorem ggX0_commute_X0_make : GoodIn wsX0_commute wsX0_make := goodIn_r _ [5, 6, 7, 8, 9, 10, 11, 12, 13, 4, 14, 15, 16, 49, 50, 51, 52, 53, 54, 55, 56, 57, 58, 59, 60, 61, 62, 63] (by decide +kernel) (by decide +kernel)
set_option maxRecDepth 20000 in
theorem gX0_commute_X0_make : GoodIn wsX0_commute (wsV RX0 127 RX0 yX0_make wsX0_make) := goodIn_app (goodIn_of _ (by decide +kernel)) ggX0_commute_X0_make
set_option maxRecDepth 20000 in
theorem ggX0_commute_X0_tie : GoodIn wsX0_commute wsX0_tie := goodIn_r _ [20, 21, 49, 50, 51, 52, 53, 54, 55, 56, 57, 58, 59, 60, 61, 62, 63] (by decide +kernel) (by decide +kernel)
set_option maxRecDepth 20000 in
theorem gX0_commute_X0_tie : GoodIn wsX0_commute (wsV RX0 93 RX0 yX0_tie wsX0_tie) := goodIn_app (goodIn_of _ (by decide +kernel)) ggX0_commute_X0_tie
set_option maxRecDepth 20000 in
theorem ggX0_commute_X0_move : GoodIn wsX0_commute wsX0_move := goodIn_r _ [25, 26, 27, 28, 4, 29, 21, 30, 31, 32, 33, 34, 35, 36, 37, 38, 8, 17, 18, 19, 20, 39, 40, 41, 42, 43, 44, 45, 46, 47, 48, 49, 50, 51, 52, 53, 54, 55, 56, 57, 58, 59, 60, 61, 62, 63, 64, 65] (by decide +kernel) (by decide +kernel)
set_option maxRecDepth 20000 in
theorem gX0_commute_X0_move : GoodIn wsX0_commute (wsV RX0 121 RX0 yX0_move wsX0_move) := goodIn_app (goodIn_of _ (by decide +kernel)) ggX0_commute_X0_move
theorem dX0_commute_0 : decode cX0_commute 0 = .ok (.iconst 3, 1) := by decide +kernel
theorem dX0_commute_1 : decode cX0_commute 1 = .ok (.aload_n 0, 1) := by decide +kernel
theorem dX0_commute_2 : decode cX0_commute 2 = .ok (.iconst 2, 1) := by decide +kernel
theorem dX0_commute_3 : decode cX0_commute 3 = .ok (.invokevirtual 127, 3) := by decide +kernel
theorem dX0_commute_6 : decode cX0_commute 6 = .ok (.imul, 1) := by decide +kernel
theorem dX0_commute_7 : decode cX0_commute 7 = .ok (.istore_n 3, 1) := by decide +kernel
theorem dX0_commute_8 : decode cX0_commute 8 = .ok (.iconst 3, 1) := by decide +kernel
theorem dX0_commute_9 : decode cX0_commute 9 = .ok (.aload_n 0, 1) := by decide +kernel
theorem dX0_commute_10 : decode cX0_commute 10 = .ok (.iconst 2, 1) := by decide +kernel
theorem dX0_commute_11 : decode cX0_commute 11 = .ok (.invokevirtual 127, 3) := by decide +kernel
theorem dX0_commute_14 : decode cX0_commute 14 = .ok (.imul, 1) := by decide +kernel
theorem dX0_commute_15 : decode cX0_commute 15 = .ok (.istore 4, 2) := by decide +kernel
theorem dX0_commute_17 : decode cX0_commute 17 = .ok (.iconst 3, 1) := by decide +kernel
theorem dX0_commute_18 : decode cX0_commute 18 = .ok (.aload_n 0, 1) := by decide +kernel
theorem dX0_commute_19 : decode cX0_commute 19 = .ok (.iconst 1, 1) := by decide +kernel
theorem dX0_commute_20 : decode cX0_commute 20 = .ok (.invokevirtual 127, 3) := by decide +kernel
theorem dX0_commute_23 : decode cX0_commute 23 = .ok (.imul, 1) := by decide +kernel
theorem dX0_commute_24 : decode cX0_commute 24 = .ok (.istore 5, 2) := by decide +kernel
theorem dX0_commute_26 : decode cX0_commute 26 = .ok (.iconst 3, 1) := by decide +kernel
theorem dX0_commute_27 : decode cX0_commute 27 = .ok (.aload_n 0, 1) := by decide +kernel
theorem dX0_commute_28 : decode cX0_commute 28 = .ok (.iconst 1, 1) := by decide +kernel
theorem dX0_commute_29 : decode cX0_commute 29 = .ok (.invokevirtual 127, 3) := by decide +kernel
theorem dX0_commute_32 : decode cX0_commute 32 = .ok (.imul, 1) := by decide +kernel
theorem dX0_commute_33 : decode cX0_commute 33 = .ok (.istore 6, 2) := by decide +kernel
theorem dX0_commute_35 : decode cX0_commute 35 = .ok (.aload_n 0, 1) := by decide +kernel
theorem dX0_commute_36 : decode cX0_commute 36 = .ok (.iload_n 3, 1) := by decide +kernel
theorem dX0_commute_37 : decode cX0_commute 37 = .ok (.iconst 1, 1) := by decide +kernel
theorem dX0_commute_38 : decode cX0_commute 38 = .ok (.iadd, 1) := by decide +kernel
theorem dX0_commute_39 : decode cX0_commute 39 = .ok (.iload 5, 2) := by decide +kernel
theorem dX0_commute_41 : decode cX0_commute 41 = .ok (.iconst 1, 1) := by decide +kernel
theorem dX0_commute_42 : decode cX0_commute 42 = .ok (.iadd, 1) := by decide +kernel
theorem dX0_commute_43 : decode cX0_commute 43 = .ok (.invokevirtual 93, 3) := by decide +kernel
theorem dX0_commute_46 : decode cX0_commute 46 = .ok (.aload_n 0, 1) := by decide +kernel
theorem dX0_commute_47 : decode cX0_commute 47 = .ok (.iload_n 3, 1) := by decide +kernel
theorem dX0_commute_48 : decode cX0_commute 48 = .ok (.iconst 2, 1) := by decide +kernel
theorem dX0_commute_49 : decode cX0_commute 49 = .ok (.iadd, 1) := by decide +kernel
theorem dX0_commute_50 : decode cX0_commute 50 = .ok (.iload 6, 2) := by decide +kernel
theorem dX0_commute_52 : decode cX0_commute 52 = .ok (.iconst 1, 1) := by decide +kernel
theorem dX0_commute_53 : decode cX0_commute 53 = .ok (.iadd, 1) := by decide +kernel
theorem dX0_commute_54 : decode cX0_commute 54 = .ok (.invokevirtual 93, 3) := by decide +kernel
theorem dX0_commute_57 : decode cX0_commute 57 = .ok (.aload_n 0, 1) := by decide +kernel
theorem dX0_commute_58 : decode cX0_commute 58 = .ok (.iload 4, 2) := by decide +kernel
theorem dX0_commute_60 : decode cX0_commute 60 = .ok (.iconst 1, 1) := by decide +kernel
theorem dX0_commute_61 : decode cX0_commute 61 = .ok (.iadd, 1) := by decide +kernel
theorem dX0_commute_62 : decode cX0_commute 62 = .ok (.iload 5, 2) := by decide +kernel
theorem dX0_commute_64 : decode cX0_commute 64 = .ok (.iconst 2, 1) := by decide +kernel
theorem dX0_commute_65 : decode cX0_commute 65 = .ok (.iadd, 1) := by decide +kernel
theorem dX0_commute_66 : decode cX0_commute 66 = .ok (.invokevirtual 93, 3) := by decide +kernel
theorem dX0_commute_69 : decode cX0_commute 69 = .ok (.aload_n 0, 1) := by decide +kernel
theorem dX0_commute_70 : decode cX0_commute 70 = .ok (.iload 4, 2) := by decide +kernel
theorem dX0_commute_72 : decode cX0_commute 72 = .ok (.iconst 2, 1) := by decide +kernel
theorem dX0_commute_73 : decode cX0_commute 73 = .ok (.iadd, 1) := by decide +kernel
theorem dX0_commute_74 : decode cX0_commute 74 = .ok (.iload 6, 2) := by decide +kernel
theorem dX0_commute_76 : decode cX0_commute 76 = .ok (.iconst 2, 1) := by decide +kernel
theorem dX0_commute_77 : decode cX0_commute 77 = .ok (.iadd, 1) := by decide +kernel
theorem dX0_commute_78 : decode cX0_commute 78 = .ok (.invokevirtual 93, 3) := by decide +kernel
theorem dX0_commute_81 : decode cX0_commute 81 = .ok (.aload_n 0, 1) := by decide +kernel
theorem dX0_commute_82 : decode cX0_commute 82 = .ok (.iload_n 1, 1) := by decide +kernel
theorem dX0_commute_83 : decode cX0_commute 83 = .ok (.iload_n 3, 1) := by decide +kernel
theorem dX0_commute_84 : decode cX0_commute 84 = .ok (.invokevirtual 121, 3) := by decide +kernel
theorem dX0_commute_87 : decode cX0_commute 87 = .ok (.aload_n 0, 1) := by decide +kernel
theorem dX0_commute_88 : decode cX0_commute 88 = .ok (.iload_n 1, 1) := by decide +kernel
theorem dX0_commute_89 : decode cX0_commute 89 = .ok (.iconst 1, 1) := by decide +kernel
theorem dX0_commute_90 : decode cX0_commute 90 = .ok (.iadd, 1) := by decide +kernel
theorem dX0_commute_91 : decode cX0_commute 91 = .ok (.iload 4, 2) := by decide +kernel
theorem dX0_commute_93 : decode cX0_commute 93 = .ok (.invokevirtual 121, 3) := by decide +kernel
theorem dX0_commute_96 : decode cX0_commute 96 = .ok (.aload_n 0, 1) := by decide +kernel
theorem dX0_commute_97 : decode cX0_commute 97 = .ok (.iload_n 2, 1) := by decide +kernel
theorem dX0_commute_98 : decode cX0_commute 98 = .ok (.iload 5, 2) := by decide +kernel
theorem dX0_commute_100 : decode cX0_commute 100 = .ok (.invokevirtual 121, 3) := by decide +kernel
theorem dX0_commute_103 : decode cX0_commute 103 = .ok (.aload_n 0, 1) := by decide +kernel
theorem dX0_commute_104 : decode cX0_commute 104 = .ok (.iload_n 2, 1) := by decide +kernel
theorem dX0_commute_105 : decode cX0_commute 105 = .ok (.iconst 1, 1) := by decide +kernel
theorem dX0_commute_106 : decode cX0_commute 106 = .ok (.iadd, 1) := by decide +kernel
theorem dX0_commute_107 : decode cX0_commute 107 = .ok (.iload 6, 2) := by decide +kernel
theorem dX0_commute_109 : decode cX0_commute 109 = .ok (.invokevirtual 121, 3) := by decide +kernel
theorem dX0_commute_112 : decode cX0_commute 112 = .ok (.return_, 1) := by decide +kernel
set_option maxRecDepth 20000 in
theorem ggX0_goOn_X0_readyPairs : GoodIn wsX0_goOn wsX0_readyPairs := goodIn_r _ [13, 4, 14, 15, 16, 12, 17, 1, 18, 19, 20, 21, 22, 23, 24, 25, 26, 27, 28, 29, 30, 31, 32, 33, 34, 35, 36, 128, 129, 130, 131, 132, 133, 134, 135, 136, 137, 138, 139, 140, 141, 142, 143, 144] (by decide +kernel) (by decide +kernel)
set_option maxRecDepth 20000 in
theorem gX0_goOn_X0_readyPairs : GoodIn wsX0_goOn (wsV RX0 167 RX0 yX0_readyPairs wsX0_readyPairs) := goodIn_app (goodIn_of _ (by decide +kernel)) ggX0_goOn_X0_readyPairs
set_option maxRecDepth 20000 in
theorem ggX0_goOn_X0_hasRoom : GoodIn wsX0_goOn wsX0_hasRoom := goodIn_r _ [17, 1, 18, 128, 129, 130, 131, 132, 133, 134, 135, 136, 137, 138, 139, 140, 141, 142] (by decide +kernel) (by decide +kernel)
set_option maxRecDepth 20000 in
theorem gX0_goOn_X0_hasRoom : GoodIn wsX0_goOn (wsV RX0 145 RX0 yX0_hasRoom wsX0_hasRoom) := goodIn_app (goodIn_of _ (by decide +kernel)) ggX0_goOn_X0_hasRoom
set_option maxRecDepth 20000 in
theorem ggX0_goOn_X1_at : GoodIn wsX0_goOn wsX1_at := goodIn_r _ [40, 24, 25, 26, 22, 27, 28, 29, 30, 31, 32, 33, 34, 35, 36, 41, 42, 43, 143, 144] (by decide +kernel) (by decide +kernel)
set_option maxRecDepth 20000 in
theorem gX0_goOn_X1_at : GoodIn wsX0_goOn (wsV RX0 172 RX1 yX1_at wsX1_at) := goodIn_app (goodIn_of _ (by decide +kernel)) ggX0_goOn_X1_at
set_option maxRecDepth 20000 in
theorem ggX0_goOn_X0_rewrite : GoodIn wsX0_goOn wsX0_rewrite := goodIn_r _ [47, 4, 48, 49, 50, 51, 12, 52, 53, 54, 55, 56, 57, 58, 59, 60, 61, 62, 63, 64, 65, 66, 67, 68, 69, 70, 71, 72, 22, 73, 74, 28, 29, 75, 76, 77, 78, 79, 80, 81, 82, 83, 84, 85, 86, 87, 88, 7, 89, 90, 91, 92, 93, 94, 95, 96, 97, 98, 99, 100, 101, 102, 103, 104, 1, 105, 106, 107, 108, 109, 110, 111, 112, 113, 114, 115, 116, 117, 118, 119, 120, 121, 122, 123, 18, 124, 125, 126, 127, 128, 129, 130, 131, 132, 133, 134, 135, 136, 137, 138, 139, 140, 141, 142, 143, 144] (by decide +kernel) (by decide +kernel)
set_option maxRecDepth 20000 in
theorem gX0_goOn_X0_rewrite : GoodIn wsX0_goOn (wsV RX0 175 RX0 yX0_rewrite wsX0_rewrite) := goodIn_app (goodIn_of _ (by decide +kernel)) ggX0_goOn_X0_rewrite
theorem dX0_goOn_0 : decode cX0_goOn 0 = .ok (.iload_n 3, 1) := by decide +kernel
theorem dX0_goOn_1 : decode cX0_goOn 1 = .ok (.istore 4, 2) := by decide +kernel
theorem dX0_goOn_3 : decode cX0_goOn 3 = .ok (.aload_n 0, 1) := by decide +kernel
theorem dX0_goOn_4 : decode cX0_goOn 4 = .ok (.aload_n 0, 1) := by decide +kernel
theorem dX0_goOn_5 : decode cX0_goOn 5 = .ok (.getfield 59, 3) := by decide +kernel
theorem dX0_goOn_8 : decode cX0_goOn 8 = .ok (.putfield 80, 3) := by decide +kernel
theorem dX0_goOn_11 : decode cX0_goOn 11 = .ok (.iconst 0, 1) := by decide +kernel
theorem dX0_goOn_12 : decode cX0_goOn 12 = .ok (.istore 5, 2) := by decide +kernel
theorem dX0_goOn_14 : decode cX0_goOn 14 = .ok (.iload 5, 2) := by decide +kernel
theorem dX0_goOn_16 : decode cX0_goOn 16 = .ok (.iload_n 2, 1) := by decide +kernel
theorem dX0_goOn_17 : decode cX0_goOn 17 = .ok (.if_icmp .ge 98, 3) := by decide +kernel
theorem dX0_goOn_20 : decode cX0_goOn 20 = .ok (.aload_n 0, 1) := by decide +kernel
theorem dX0_goOn_21 : decode cX0_goOn 21 = .ok (.invokevirtual 167, 3) := by decide +kernel
theorem dX0_goOn_24 : decode cX0_goOn 24 = .ok (.istore 6, 2) := by decide +kernel
theorem dX0_goOn_26 : decode cX0_goOn 26 = .ok (.iload 6, 2) := by decide +kernel
theorem dX0_goOn_28 : decode cX0_goOn 28 = .ok (.ifCond .gt 6, 3) := by decide +kernel
theorem dX0_goOn_31 : decode cX0_goOn 31 = .ok (.iload 5, 2) := by decide +kernel
theorem dX0_goOn_33 : decode cX0_goOn 33 = .ok (.ireturn, 1) := by decide +kernel
theorem dX0_goOn_34 : decode cX0_goOn 34 = .ok (.iload_n 1, 1) := by decide +kernel
theorem dX0_goOn_35 : decode cX0_goOn 35 = .ok (.iconst 1, 1) := by decide +kernel
theorem dX0_goOn_36 : decode cX0_goOn 36 = .ok (.if_icmp .ne 10, 3) := by decide +kernel
theorem dX0_goOn_39 : decode cX0_goOn 39 = .ok (.iload 6, 2) := by decide +kernel
theorem dX0_goOn_41 : decode cX0_goOn 41 = .ok (.iconst 1, 1) := by decide +kernel
theorem dX0_goOn_42 : decode cX0_goOn 42 = .ok (.isub, 1) := by decide +kernel
theorem dX0_goOn_43 : decode cX0_goOn 43 = .ok (.goto 4, 3) := by decide +kernel
theorem dX0_goOn_46 : decode cX0_goOn 46 = .ok (.iconst 0, 1) := by decide +kernel
theorem dX0_goOn_47 : decode cX0_goOn 47 = .ok (.istore 7, 2) := by decide +kernel
theorem dX0_goOn_49 : decode cX0_goOn 49 = .ok (.iload_n 1, 1) := by decide +kernel
theorem dX0_goOn_50 : decode cX0_goOn 50 = .ok (.iconst 2, 1) := by decide +kernel
theorem dX0_goOn_51 : decode cX0_goOn 51 = .ok (.if_icmp .ne 24, 3) := by decide +kernel
theorem dX0_goOn_54 : decode cX0_goOn 54 = .ok (.ldc 171, 2) := by decide +kernel
theorem dX0_goOn_56 : decode cX0_goOn 56 = .ok (.iload 4, 2) := by decide +kernel
theorem dX0_goOn_58 : decode cX0_goOn 58 = .ok (.imul, 1) := by decide +kernel
theorem dX0_goOn_59 : decode cX0_goOn 59 = .ok (.sipush 12345, 3) := by decide +kernel
theorem dX0_goOn_62 : decode cX0_goOn 62 = .ok (.iadd, 1) := by decide +kernel
theorem dX0_goOn_63 : decode cX0_goOn 63 = .ok (.istore 4, 2) := by decide +kernel
theorem dX0_goOn_65 : decode cX0_goOn 65 = .ok (.iload 4, 2) := by decide +kernel
theorem dX0_goOn_67 : decode cX0_goOn 67 = .ok (.bipush 16, 2) := by decide +kernel
theorem dX0_goOn_69 : decode cX0_goOn 69 = .ok (.iushr, 1) := by decide +kernel
theorem dX0_goOn_70 : decode cX0_goOn 70 = .ok (.iload 6, 2) := by decide +kernel
theorem dX0_goOn_72 : decode cX0_goOn 72 = .ok (.irem, 1) := by decide +kernel
theorem dX0_goOn_73 : decode cX0_goOn 73 = .ok (.istore 7, 2) := by decide +kernel
theorem dX0_goOn_75 : decode cX0_goOn 75 = .ok (.aload_n 0, 1) := by decide +kernel
theorem dX0_goOn_76 : decode cX0_goOn 76 = .ok (.aload_n 0, 1) := by decide +kernel
theorem dX0_goOn_77 : decode cX0_goOn 77 = .ok (.getfield 24, 3) := by decide +kernel
theorem dX0_goOn_80 : decode cX0_goOn 80 = .ok (.iload 7, 2) := by decide +kernel
theorem dX0_goOn_82 : decode cX0_goOn 82 = .ok (.aload_n 0, 1) := by decide +kernel
theorem dX0_goOn_83 : decode cX0_goOn 83 = .ok (.iconst 2, 1) := by decide +kernel
theorem dX0_goOn_84 : decode cX0_goOn 84 = .ok (.invokevirtual 145, 3) := by decide +kernel
theorem dX0_goOn_87 : decode cX0_goOn 87 = .ok (.invokevirtual 172, 3) := by decide +kernel
theorem dX0_goOn_90 : decode cX0_goOn 90 = .ok (.invokevirtual 175, 3) := by decide +kernel
theorem dX0_goOn_93 : decode cX0_goOn 93 = .ok (.pop, 1) := by decide +kernel
theorem dX0_goOn_94 : decode cX0_goOn 94 = .ok (.aload_n 0, 1) := by decide +kernel
theorem dX0_goOn_95 : decode cX0_goOn 95 = .ok (.aload_n 0, 1) := by decide +kernel
theorem dX0_goOn_96 : decode cX0_goOn 96 = .ok (.getfield 80, 3) := by decide +kernel
theorem dX0_goOn_99 : decode cX0_goOn 99 = .ok (.aload_n 0, 1) := by decide +kernel
theorem dX0_goOn_100 : decode cX0_goOn 100 = .ok (.getfield 59, 3) := by decide +kernel
theorem dX0_goOn_103 : decode cX0_goOn 103 = .ok (.invokestatic 31, 3) := by decide +kernel
theorem dX0_goOn_106 : decode cX0_goOn 106 = .ok (.putfield 80, 3) := by decide +kernel
theorem dX0_goOn_109 : decode cX0_goOn 109 = .ok (.iinc 5 1, 3) := by decide +kernel
theorem dX0_goOn_112 : decode cX0_goOn 112 = .ok (.goto (-98), 3) := by decide +kernel
theorem dX0_goOn_115 : decode cX0_goOn 115 = .ok (.iload_n 2, 1) := by decide +kernel
theorem dX0_goOn_116 : decode cX0_goOn 116 = .ok (.ireturn, 1) := by decide +kernel
set_option maxRecDepth 20000 in
theorem ggX0_goRound_X1_become : GoodIn wsX0_goRound wsX1_become := goodIn_r _ [7, 8, 9, 10, 11, 12, 13, 147, 148] (by decide +kernel) (by decide +kernel)
set_option maxRecDepth 20000 in
theorem gX0_goRound_X1_become : GoodIn wsX0_goRound (wsV RX0 89 RX1 yX1_become wsX1_become) := goodIn_app (goodIn_of _ (by decide +kernel)) ggX0_goRound_X1_become
set_option maxRecDepth 20000 in
theorem ggX0_goRound_X1_size : GoodIn wsX0_goRound wsX1_size := goodIn_r _ [17, 18, 19, 20, 6, 21, 8, 13, 22, 23, 24, 25, 26, 27, 28, 147, 148] (by decide +kernel) (by decide +kernel)
set_option maxRecDepth 20000 in
theorem gX0_goRound_X1_size : GoodIn wsX0_goRound (wsV RX0 148 RX1 yX1_size wsX1_size) := goodIn_app (goodIn_of _ (by decide +kernel)) ggX0_goRound_X1_size
set_option maxRecDepth 20000 in
theorem ggX0_goRound_X1_at : GoodIn wsX0_goRound wsX1_at := goodIn_r _ [32, 18, 19, 20, 6, 21, 8, 13, 22, 23, 24, 25, 26, 27, 28, 33, 34, 35, 147, 148] (by decide +kernel) (by decide +kernel)
set_option maxRecDepth 20000 in
theorem gX0_goRound_X1_at : GoodIn wsX0_goRound (wsV RX0 172 RX1 yX1_at wsX1_at) := goodIn_app (goodIn_of _ (by decide +kernel)) ggX0_goRound_X1_at
set_option maxRecDepth 20000 in
theorem ggX0_goRound_X0_canGo : GoodIn wsX0_goRound wsX0_canGo := goodIn_r _ [40, 41, 42, 43, 39, 44, 45, 46, 47, 48, 49, 50, 51, 52, 53, 54, 55, 56, 57, 58, 59, 60, 61, 62, 63, 64, 65, 66, 67, 132, 133, 134, 135, 136, 137, 138, 139, 140, 141, 142, 143, 144, 145, 146] (by decide +kernel) (by decide +kernel)
set_option maxRecDepth 20000 in
theorem gX0_goRound_X0_canGo : GoodIn wsX0_goRound (wsV RX0 178 RX0 yX0_canGo wsX0_canGo) := goodIn_app (goodIn_of _ (by decide +kernel)) ggX0_goRound_X0_canGo
set_option maxRecDepth 20000 in
theorem ggX0_goRound_X0_rewrite : GoodIn wsX0_goRound wsX0_rewrite := goodIn_r _ [71, 2, 72, 50, 51, 52, 39, 53, 54, 55, 56, 57, 58, 59, 60, 61, 41, 42, 43, 44, 45, 46, 47, 48, 49, 73, 74, 75, 6, 76, 77, 8, 13, 78, 79, 80, 81, 82, 83, 84, 85, 86, 87, 88, 89, 90, 91, 92, 93, 94, 95, 96, 97, 98, 99, 100, 101, 102, 103, 104, 105, 106, 107, 108, 66, 109, 110, 111, 112, 113, 114, 115, 116, 117, 118, 119, 120, 121, 122, 123, 124, 125, 126, 127, 67, 128, 129, 130, 131, 132, 133, 134, 135, 136, 137, 138, 139, 140, 141, 142, 143, 144, 145, 146, 147, 148] (by decide +kernel) (by decide +kernel)
set_option maxRecDepth 20000 in
theorem gX0_goRound_X0_rewrite : GoodIn wsX0_goRound (wsV RX0 175 RX0 yX0_rewrite wsX0_rewrite) := goodIn_app (goodIn_of _ (by decide +kernel)) ggX0_goRound_X0_rewrite
theorem dX0_goRound_0 : decode cX0_goRound 0 = .ok (.aload_n 0, 1) := by decide +kernel
theorem dX0_goRound_1 : decode cX0_goRound 1 = .ok (.getfield 28, 3) := by decide +kernel
theorem dX0_goRound_4 : decode cX0_goRound 4 = .ok (.aload_n 0, 1) := by decide +kernel
theorem dX0_goRound_5 : decode cX0_goRound 5 = .ok (.getfield 24, 3) := by decide +kernel
theorem dX0_goRound_8 : decode cX0_goRound 8 = .ok (.invokevirtual 89, 3) := by decide +kernel
theorem dX0_goRound_11 : decode cX0_goRound 11 = .ok (.aload_n 0, 1) := by decide +kernel
theorem dX0_goRound_12 : decode cX0_goRound 12 = .ok (.getfield 28, 3) := by decide +kernel
theorem dX0_goRound_15 : decode cX0_goRound 15 = .ok (.iconst 1, 1) := by decide +kernel
theorem dX0_goRound_16 : decode cX0_goRound 16 = .ok (.invokevirtual 148, 3) := by decide +kernel
theorem dX0_goRound_19 : decode cX0_goRound 19 = .ok (.istore_n 1, 1) := by decide +kernel
theorem dX0_goRound_20 : decode cX0_goRound 20 = .ok (.iconst 0, 1) := by decide +kernel
theorem dX0_goRound_21 : decode cX0_goRound 21 = .ok (.istore_n 2, 1) := by decide +kernel
theorem dX0_goRound_22 : decode cX0_goRound 22 = .ok (.iconst 0, 1) := by decide +kernel
theorem dX0_goRound_23 : decode cX0_goRound 23 = .ok (.istore_n 3, 1) := by decide +kernel
theorem dX0_goRound_24 : decode cX0_goRound 24 = .ok (.iload_n 3, 1) := by decide +kernel
theorem dX0_goRound_25 : decode cX0_goRound 25 = .ok (.iload_n 1, 1) := by decide +kernel
theorem dX0_goRound_26 : decode cX0_goRound 26 = .ok (.if_icmp .ge 39, 3) := by decide +kernel
theorem dX0_goRound_29 : decode cX0_goRound 29 = .ok (.aload_n 0, 1) := by decide +kernel
theorem dX0_goRound_30 : decode cX0_goRound 30 = .ok (.getfield 28, 3) := by decide +kernel
theorem dX0_goRound_33 : decode cX0_goRound 33 = .ok (.iload_n 3, 1) := by decide +kernel
theorem dX0_goRound_34 : decode cX0_goRound 34 = .ok (.iconst 1, 1) := by decide +kernel
theorem dX0_goRound_35 : decode cX0_goRound 35 = .ok (.invokevirtual 172, 3) := by decide +kernel
theorem dX0_goRound_38 : decode cX0_goRound 38 = .ok (.istore 4, 2) := by decide +kernel
theorem dX0_goRound_40 : decode cX0_goRound 40 = .ok (.aload_n 0, 1) := by decide +kernel
theorem dX0_goRound_41 : decode cX0_goRound 41 = .ok (.iload 4, 2) := by decide +kernel
theorem dX0_goRound_43 : decode cX0_goRound 43 = .ok (.invokevirtual 178, 3) := by decide +kernel
theorem dX0_goRound_46 : decode cX0_goRound 46 = .ok (.ifCond .eq 13, 3) := by decide +kernel
theorem dX0_goRound_49 : decode cX0_goRound 49 = .ok (.aload_n 0, 1) := by decide +kernel
theorem dX0_goRound_50 : decode cX0_goRound 50 = .ok (.iload 4, 2) := by decide +kernel
theorem dX0_goRound_52 : decode cX0_goRound 52 = .ok (.invokevirtual 175, 3) := by decide +kernel
theorem dX0_goRound_55 : decode cX0_goRound 55 = .ok (.pop, 1) := by decide +kernel
theorem dX0_goRound_56 : decode cX0_goRound 56 = .ok (.iinc 2 1, 3) := by decide +kernel
theorem dX0_goRound_59 : decode cX0_goRound 59 = .ok (.iinc 3 1, 3) := by decide +kernel
theorem dX0_goRound_62 : decode cX0_goRound 62 = .ok (.goto (-38), 3) := by decide +kernel
theorem dX0_goRound_65 : decode cX0_goRound 65 = .ok (.iload_n 2, 1) := by decide +kernel
theorem dX0_goRound_66 : decode cX0_goRound 66 = .ok (.ireturn, 1) := by decide +kernel
