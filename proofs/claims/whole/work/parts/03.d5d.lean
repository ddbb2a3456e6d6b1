set_option maxRecDepth 20000 in
theorem ggX5_looksAll_X5_isRoot : GoodIn wsX5_looksAll wsX5_isRoot := goodIn_r _ [9, 10, 11, 12, 8, 13, 33, 34, 35, 36, 37, 38, 39, 40, 41, 42, 43, 44, 45, 46, 47, 48, 49, 50, 51, 52, 53, 54, 55, 56, 57, 58, 59, 60, 61, 62, 63, 64, 65, 66, 67, 68, 69, 70, 71, 72, 73, 74] (by decide +kernel) (by decide +kernel)
set_option maxRecDepth 20000 in
theorem gX5_looksAll_X5_isRoot : GoodIn wsX5_looksAll (wsV RX5 268 RX5 yX5_isRoot wsX5_isRoot) := goodIn_app (goodIn_of _ (by decide +kernel)) ggX5_looksAll_X5_isRoot
set_option maxRecDepth 20000 in
theorem ggX5_looksAll_X5_tells : GoodIn wsX5_looksAll wsX5_tells := goodIn_r _ [17, 18, 2, 33, 34, 35, 36, 37, 38, 39, 40, 41, 42, 43, 44, 45, 46, 47, 48, 49, 50, 51, 52, 53, 54, 55, 56, 57, 58, 59, 60, 61, 62, 63, 64, 65, 66, 67, 68, 69, 70, 71, 72, 73, 74] (by decide +kernel) (by decide +kernel)
set_option maxRecDepth 20000 in
theorem gX5_looksAll_X5_tells : GoodIn wsX5_looksAll (wsV RX5 280 RX5 yX5_tells wsX5_tells) := goodIn_app (goodIn_of _ (by decide +kernel)) ggX5_looksAll_X5_tells
set_option maxRecDepth 20000 in
theorem ggX5_looksAll_X5_looks : GoodIn wsX5_looksAll wsX5_looks := goodIn_r _ [22, 3, 1, 23, 24, 4, 25, 26, 27, 8, 28, 10, 14, 15, 16, 17, 18, 2, 29, 30, 31, 32, 33, 34, 35, 36, 37, 38, 39, 40, 41, 42, 43, 44, 45, 46, 47, 48, 49, 50, 51, 52, 53, 54, 55, 56, 57, 58, 59, 60, 61, 62, 63, 64, 65, 66, 67, 68, 69, 70, 71, 72, 73, 74] (by decide +kernel) (by decide +kernel)
set_option maxRecDepth 20000 in
theorem gX5_looksAll_X5_looks : GoodIn wsX5_looksAll (wsV RX5 286 RX5 yX5_looks wsX5_looks) := goodIn_app (goodIn_of _ (by decide +kernel)) ggX5_looksAll_X5_looks
theorem dX5_looksAll_0 : decode cX5_looksAll 0 = .ok (.aload_n 0, 1) := by decide +kernel
theorem dX5_looksAll_1 : decode cX5_looksAll 1 = .ok (.iconst 0, 1) := by decide +kernel
theorem dX5_looksAll_2 : decode cX5_looksAll 2 = .ok (.putfield 283, 3) := by decide +kernel
theorem dX5_looksAll_5 : decode cX5_looksAll 5 = .ok (.aload_n 0, 1) := by decide +kernel
theorem dX5_looksAll_6 : decode cX5_looksAll 6 = .ok (.iconst 0, 1) := by decide +kernel
theorem dX5_looksAll_7 : decode cX5_looksAll 7 = .ok (.putfield 277, 3) := by decide +kernel
theorem dX5_looksAll_10 : decode cX5_looksAll 10 = .ok (.iconst 0, 1) := by decide +kernel
theorem dX5_looksAll_11 : decode cX5_looksAll 11 = .ok (.istore_n 1, 1) := by decide +kernel
theorem dX5_looksAll_12 : decode cX5_looksAll 12 = .ok (.iload_n 1, 1) := by decide +kernel
theorem dX5_looksAll_13 : decode cX5_looksAll 13 = .ok (.sipush 300, 3) := by decide +kernel
theorem dX5_looksAll_16 : decode cX5_looksAll 16 = .ok (.if_icmp .ge 16, 3) := by decide +kernel
theorem dX5_looksAll_19 : decode cX5_looksAll 19 = .ok (.aload_n 0, 1) := by decide +kernel
theorem dX5_looksAll_20 : decode cX5_looksAll 20 = .ok (.getfield 61, 3) := by decide +kernel
theorem dX5_looksAll_23 : decode cX5_looksAll 23 = .ok (.iload_n 1, 1) := by decide +kernel
theorem dX5_looksAll_24 : decode cX5_looksAll 24 = .ok (.iconst (-1), 1) := by decide +kernel
theorem dX5_looksAll_25 : decode cX5_looksAll 25 = .ok (.iastore, 1) := by decide +kernel
theorem dX5_looksAll_26 : decode cX5_looksAll 26 = .ok (.iinc 1 1, 3) := by decide +kernel
theorem dX5_looksAll_29 : decode cX5_looksAll 29 = .ok (.goto (-17), 3) := by decide +kernel
theorem dX5_looksAll_32 : decode cX5_looksAll 32 = .ok (.iconst 0, 1) := by decide +kernel
theorem dX5_looksAll_33 : decode cX5_looksAll 33 = .ok (.istore_n 1, 1) := by decide +kernel
theorem dX5_looksAll_34 : decode cX5_looksAll 34 = .ok (.iload_n 1, 1) := by decide +kernel
theorem dX5_looksAll_35 : decode cX5_looksAll 35 = .ok (.bipush 16, 2) := by decide +kernel
theorem dX5_looksAll_37 : decode cX5_looksAll 37 = .ok (.if_icmp .ge 60, 3) := by decide +kernel
theorem dX5_looksAll_40 : decode cX5_looksAll 40 = .ok (.aload_n 0, 1) := by decide +kernel
theorem dX5_looksAll_41 : decode cX5_looksAll 41 = .ok (.iload_n 1, 1) := by decide +kernel
theorem dX5_looksAll_42 : decode cX5_looksAll 42 = .ok (.invokevirtual 268, 3) := by decide +kernel
theorem dX5_looksAll_45 : decode cX5_looksAll 45 = .ok (.ifCond .eq 46, 3) := by decide +kernel
theorem dX5_looksAll_48 : decode cX5_looksAll 48 = .ok (.aload_n 0, 1) := by decide +kernel
theorem dX5_looksAll_49 : decode cX5_looksAll 49 = .ok (.sipush 30000, 3) := by decide +kernel
theorem dX5_looksAll_52 : decode cX5_looksAll 52 = .ok (.iload_n 1, 1) := by decide +kernel
theorem dX5_looksAll_53 : decode cX5_looksAll 53 = .ok (.iadd, 1) := by decide +kernel
theorem dX5_looksAll_54 : decode cX5_looksAll 54 = .ok (.invokevirtual 280, 3) := by decide +kernel
theorem dX5_looksAll_57 : decode cX5_looksAll 57 = .ok (.aload_n 0, 1) := by decide +kernel
theorem dX5_looksAll_58 : decode cX5_looksAll 58 = .ok (.sipush 1000, 3) := by decide +kernel
theorem dX5_looksAll_61 : decode cX5_looksAll 61 = .ok (.iload_n 1, 1) := by decide +kernel
theorem dX5_looksAll_62 : decode cX5_looksAll 62 = .ok (.iadd, 1) := by decide +kernel
theorem dX5_looksAll_63 : decode cX5_looksAll 63 = .ok (.iconst 0, 1) := by decide +kernel
theorem dX5_looksAll_64 : decode cX5_looksAll 64 = .ok (.invokevirtual 286, 3) := by decide +kernel
theorem dX5_looksAll_67 : decode cX5_looksAll 67 = .ok (.istore_n 2, 1) := by decide +kernel
theorem dX5_looksAll_68 : decode cX5_looksAll 68 = .ok (.iload_n 2, 1) := by decide +kernel
theorem dX5_looksAll_69 : decode cX5_looksAll 69 = .ok (.ifCond .le 22, 3) := by decide +kernel
theorem dX5_looksAll_72 : decode cX5_looksAll 72 = .ok (.aload_n 0, 1) := by decide +kernel
theorem dX5_looksAll_73 : decode cX5_looksAll 73 = .ok (.aload_n 0, 1) := by decide +kernel
theorem dX5_looksAll_74 : decode cX5_looksAll 74 = .ok (.getfield 67, 3) := by decide +kernel
theorem dX5_looksAll_77 : decode cX5_looksAll 77 = .ok (.iload_n 2, 1) := by decide +kernel
theorem dX5_looksAll_78 : decode cX5_looksAll 78 = .ok (.iconst 1, 1) := by decide +kernel
theorem dX5_looksAll_79 : decode cX5_looksAll 79 = .ok (.isub, 1) := by decide +kernel
theorem dX5_looksAll_80 : decode cX5_looksAll 80 = .ok (.iaload, 1) := by decide +kernel
theorem dX5_looksAll_81 : decode cX5_looksAll 81 = .ok (.iload_n 2, 1) := by decide +kernel
theorem dX5_looksAll_82 : decode cX5_looksAll 82 = .ok (.iconst 1, 1) := by decide +kernel
theorem dX5_looksAll_83 : decode cX5_looksAll 83 = .ok (.isub, 1) := by decide +kernel
theorem dX5_looksAll_84 : decode cX5_looksAll 84 = .ok (.invokevirtual 286, 3) := by decide +kernel
theorem dX5_looksAll_87 : decode cX5_looksAll 87 = .ok (.istore_n 2, 1) := by decide +kernel
theorem dX5_looksAll_88 : decode cX5_looksAll 88 = .ok (.goto (-20), 3) := by decide +kernel
theorem dX5_looksAll_91 : decode cX5_looksAll 91 = .ok (.iinc 1 1, 3) := by decide +kernel
theorem dX5_looksAll_94 : decode cX5_looksAll 94 = .ok (.goto (-60), 3) := by decide +kernel
theorem dX5_looksAll_97 : decode cX5_looksAll 97 = .ok (.return_, 1) := by decide +kernel
set_option maxRecDepth 20000 in
theorem ggX5_seen_X5_looksAll : GoodIn wsX5_seen wsX5_looksAll := goodIn_r _ [7, 2, 8, 9, 10, 11, 12, 13, 6, 14, 15, 16, 17, 18, 19, 20, 21, 22, 23, 24, 25, 26, 27, 28, 29, 30, 31, 32, 33, 34, 35, 36, 37, 38, 39, 40, 41, 42, 43, 44, 45, 46, 47, 48, 49, 50, 51, 52, 53, 54, 55, 56, 57, 58, 59, 60, 61, 62, 63, 64, 65, 66, 67, 68, 69, 70, 71, 72, 73, 74, 75, 76, 77, 78, 79] (by decide +kernel) (by decide +kernel)
set_option maxRecDepth 20000 in
theorem gX5_seen_X5_looksAll : GoodIn wsX5_seen (wsV RX5 290 RX5 yX5_looksAll wsX5_looksAll) := goodIn_app (goodIn_of _ (by decide +kernel)) ggX5_seen_X5_looksAll
theorem dX5_seen_0 : decode cX5_seen 0 = .ok (.aload_n 0, 1) := by decide +kernel
theorem dX5_seen_1 : decode cX5_seen 1 = .ok (.iconst 0, 1) := by decide +kernel
theorem dX5_seen_2 : decode cX5_seen 2 = .ok (.putfield 1, 3) := by decide +kernel
theorem dX5_seen_5 : decode cX5_seen 5 = .ok (.aload_n 0, 1) := by decide +kernel
theorem dX5_seen_6 : decode cX5_seen 6 = .ok (.invokevirtual 290, 3) := by decide +kernel
theorem dX5_seen_9 : decode cX5_seen 9 = .ok (.aload_n 0, 1) := by decide +kernel
theorem dX5_seen_10 : decode cX5_seen 10 = .ok (.getfield 283, 3) := by decide +kernel
theorem dX5_seen_13 : decode cX5_seen 13 = .ok (.ireturn, 1) := by decide +kernel
set_option maxRecDepth 20000 in
theorem ggX5_met_X5_looksAll : GoodIn wsX5_met wsX5_looksAll := goodIn_r _ [9, 2, 10, 11, 12, 13, 14, 15, 8, 16, 17, 18, 19, 20, 21, 22, 23, 24, 25, 26, 27, 28, 29, 3, 4, 30, 31, 32, 33, 34, 35, 36, 37, 38, 39, 40, 41, 42, 43, 44, 45, 46, 47, 48, 49, 50, 51, 52, 53, 54, 55, 56, 57, 58, 59, 60, 61, 62, 63, 64, 65, 66, 67, 68, 69, 70, 71, 72, 73, 74, 75, 76, 77, 78, 79] (by decide +kernel) (by decide +kernel)
set_option maxRecDepth 20000 in
theorem gX5_met_X5_looksAll : GoodIn wsX5_met (wsV RX5 290 RX5 yX5_looksAll wsX5_looksAll) := goodIn_app (goodIn_of _ (by decide +kernel)) ggX5_met_X5_looksAll
set_option maxRecDepth 20000 in
theorem ggX5_met_X5_within : GoodIn wsX5_met wsX5_within := goodIn_r _ [20] (by decide +kernel) (by decide +kernel)
set_option maxRecDepth 20000 in
theorem gX5_met_X5_within : GoodIn wsX5_met (va_wsS RX5 89 yX5_within wsX5_within) := goodIn_app (goodIn_of _ (by decide +kernel)) ggX5_met_X5_within
theorem dX5_met_0 : decode cX5_met 0 = .ok (.aload_n 0, 1) := by decide +kernel
theorem dX5_met_1 : decode cX5_met 1 = .ok (.iconst 0, 1) := by decide +kernel
theorem dX5_met_2 : decode cX5_met 2 = .ok (.putfield 1, 3) := by decide +kernel
theorem dX5_met_5 : decode cX5_met 5 = .ok (.aload_n 0, 1) := by decide +kernel
theorem dX5_met_6 : decode cX5_met 6 = .ok (.invokevirtual 290, 3) := by decide +kernel
theorem dX5_met_9 : decode cX5_met 9 = .ok (.iload_n 1, 1) := by decide +kernel
theorem dX5_met_10 : decode cX5_met 10 = .ok (.iconst 0, 1) := by decide +kernel
theorem dX5_met_11 : decode cX5_met 11 = .ok (.aload_n 0, 1) := by decide +kernel
theorem dX5_met_12 : decode cX5_met 12 = .ok (.getfield 283, 3) := by decide +kernel
theorem dX5_met_15 : decode cX5_met 15 = .ok (.iconst 1, 1) := by decide +kernel
theorem dX5_met_16 : decode cX5_met 16 = .ok (.isub, 1) := by decide +kernel
theorem dX5_met_17 : decode cX5_met 17 = .ok (.invokestatic 89, 3) := by decide +kernel
theorem dX5_met_20 : decode cX5_met 20 = .ok (.ifCond .eq 34, 3) := by decide +kernel
theorem dX5_met_23 : decode cX5_met 23 = .ok (.iload_n 2, 1) := by decide +kernel
theorem dX5_met_24 : decode cX5_met 24 = .ok (.iconst 0, 1) := by decide +kernel
theorem dX5_met_25 : decode cX5_met 25 = .ok (.iconst 1, 1) := by decide +kernel
theorem dX5_met_26 : decode cX5_met 26 = .ok (.invokestatic 89, 3) := by decide +kernel
theorem dX5_met_29 : decode cX5_met 29 = .ok (.ifCond .eq 25, 3) := by decide +kernel
theorem dX5_met_32 : decode cX5_met 32 = .ok (.iload_n 2, 1) := by decide +kernel
theorem dX5_met_33 : decode cX5_met 33 = .ok (.ifCond .ne 12, 3) := by decide +kernel
theorem dX5_met_36 : decode cX5_met 36 = .ok (.aload_n 0, 1) := by decide +kernel
theorem dX5_met_37 : decode cX5_met 37 = .ok (.getfield 55, 3) := by decide +kernel
theorem dX5_met_40 : decode cX5_met 40 = .ok (.iload_n 1, 1) := by decide +kernel
theorem dX5_met_41 : decode cX5_met 41 = .ok (.iaload, 1) := by decide +kernel
theorem dX5_met_42 : decode cX5_met 42 = .ok (.goto 13, 3) := by decide +kernel
theorem dX5_met_45 : decode cX5_met 45 = .ok (.aload_n 0, 1) := by decide +kernel
theorem dX5_met_46 : decode cX5_met 46 = .ok (.getfield 58, 3) := by decide +kernel
theorem dX5_met_49 : decode cX5_met 49 = .ok (.iload_n 1, 1) := by decide +kernel
theorem dX5_met_50 : decode cX5_met 50 = .ok (.iaload, 1) := by decide +kernel
theorem dX5_met_51 : decode cX5_met 51 = .ok (.goto 4, 3) := by decide +kernel
theorem dX5_met_54 : decode cX5_met 54 = .ok (.iconst (-1), 1) := by decide +kernel
theorem dX5_met_55 : decode cX5_met 55 = .ok (.ireturn, 1) := by decide +kernel
set_option maxRecDepth 20000 in
theorem ggX5_laysBy_X5_looksAll : GoodIn wsX5_laysBy wsX5_looksAll := goodIn_r _ [9, 10, 1, 11, 12, 13, 14, 15, 8, 16, 17, 18, 19, 20, 21, 22, 23, 24, 4, 25, 26, 27, 28, 29, 30, 31, 32, 33, 34, 35, 36, 37, 38, 39, 40, 41, 42, 43, 44, 45, 46, 47, 48, 49, 50, 51, 52, 53, 54, 55, 56, 57, 58, 59, 60, 61, 62, 63, 64, 65, 66, 67, 68, 69, 70, 71, 72, 73, 74, 75, 76, 77, 78, 79, 80] (by decide +kernel) (by decide +kernel)
set_option maxRecDepth 20000 in
theorem gX5_laysBy_X5_looksAll : GoodIn wsX5_laysBy (wsV RX5 290 RX5 yX5_looksAll wsX5_looksAll) := goodIn_app (goodIn_of _ (by decide +kernel)) ggX5_laysBy_X5_looksAll
theorem dX5_laysBy_0 : decode cX5_laysBy 0 = .ok (.aload_n 0, 1) := by decide +kernel
theorem dX5_laysBy_1 : decode cX5_laysBy 1 = .ok (.invokevirtual 290, 3) := by decide +kernel
theorem dX5_laysBy_4 : decode cX5_laysBy 4 = .ok (.aload_n 0, 1) := by decide +kernel
theorem dX5_laysBy_5 : decode cX5_laysBy 5 = .ok (.aload_n 0, 1) := by decide +kernel
theorem dX5_laysBy_6 : decode cX5_laysBy 6 = .ok (.getfield 277, 3) := by decide +kernel
theorem dX5_laysBy_9 : decode cX5_laysBy 9 = .ok (.putfield 293, 3) := by decide +kernel
theorem dX5_laysBy_12 : decode cX5_laysBy 12 = .ok (.iconst 0, 1) := by decide +kernel
theorem dX5_laysBy_13 : decode cX5_laysBy 13 = .ok (.istore_n 1, 1) := by decide +kernel
theorem dX5_laysBy_14 : decode cX5_laysBy 14 = .ok (.iload_n 1, 1) := by decide +kernel
theorem dX5_laysBy_15 : decode cX5_laysBy 15 = .ok (.aload_n 0, 1) := by decide +kernel
theorem dX5_laysBy_16 : decode cX5_laysBy 16 = .ok (.getfield 277, 3) := by decide +kernel
theorem dX5_laysBy_19 : decode cX5_laysBy 19 = .ok (.if_icmp .ge 21, 3) := by decide +kernel
theorem dX5_laysBy_22 : decode cX5_laysBy 22 = .ok (.aload_n 0, 1) := by decide +kernel
theorem dX5_laysBy_23 : decode cX5_laysBy 23 = .ok (.getfield 70, 3) := by decide +kernel
theorem dX5_laysBy_26 : decode cX5_laysBy 26 = .ok (.iload_n 1, 1) := by decide +kernel
theorem dX5_laysBy_27 : decode cX5_laysBy 27 = .ok (.aload_n 0, 1) := by decide +kernel
theorem dX5_laysBy_28 : decode cX5_laysBy 28 = .ok (.getfield 64, 3) := by decide +kernel
theorem dX5_laysBy_31 : decode cX5_laysBy 31 = .ok (.iload_n 1, 1) := by decide +kernel
theorem dX5_laysBy_32 : decode cX5_laysBy 32 = .ok (.iaload, 1) := by decide +kernel
theorem dX5_laysBy_33 : decode cX5_laysBy 33 = .ok (.iastore, 1) := by decide +kernel
theorem dX5_laysBy_34 : decode cX5_laysBy 34 = .ok (.iinc 1 1, 3) := by decide +kernel
theorem dX5_laysBy_37 : decode cX5_laysBy 37 = .ok (.goto (-23), 3) := by decide +kernel
theorem dX5_laysBy_40 : decode cX5_laysBy 40 = .ok (.return_, 1) := by decide +kernel
set_option maxRecDepth 20000 in
theorem ggX5_areAlike_X5_looksAll : GoodIn wsX5_areAlike wsX5_looksAll := goodIn_r _ [9, 10, 1, 11, 12, 13, 14, 15, 8, 16, 17, 18, 19, 20, 21, 22, 23, 24, 3, 25, 26, 27, 28, 29, 30, 31, 32, 33, 34, 35, 36, 37, 38, 39, 40, 41, 42, 43, 44, 45, 46, 47, 48, 49, 50, 51, 52, 53, 54, 55, 56, 57, 58, 59, 60, 61, 62, 63, 64, 65, 66, 67, 68, 69, 70, 71, 72, 73, 74, 75, 76, 77, 78, 79, 80] (by decide +kernel) (by decide +kernel)
set_option maxRecDepth 20000 in
theorem gX5_areAlike_X5_looksAll : GoodIn wsX5_areAlike (wsV RX5 290 RX5 yX5_looksAll wsX5_looksAll) := goodIn_app (goodIn_of _ (by decide +kernel)) ggX5_areAlike_X5_looksAll
theorem dX5_areAlike_0 : decode cX5_areAlike 0 = .ok (.aload_n 0, 1) := by decide +kernel
theorem dX5_areAlike_1 : decode cX5_areAlike 1 = .ok (.invokevirtual 290, 3) := by decide +kernel
theorem dX5_areAlike_4 : decode cX5_areAlike 4 = .ok (.aload_n 0, 1) := by decide +kernel
theorem dX5_areAlike_5 : decode cX5_areAlike 5 = .ok (.getfield 277, 3) := by decide +kernel
theorem dX5_areAlike_8 : decode cX5_areAlike 8 = .ok (.aload_n 0, 1) := by decide +kernel
theorem dX5_areAlike_9 : decode cX5_areAlike 9 = .ok (.getfield 293, 3) := by decide +kernel
theorem dX5_areAlike_12 : decode cX5_areAlike 12 = .ok (.if_icmp .ne 7, 3) := by decide +kernel
theorem dX5_areAlike_15 : decode cX5_areAlike 15 = .ok (.iconst 1, 1) := by decide +kernel
theorem dX5_areAlike_16 : decode cX5_areAlike 16 = .ok (.goto 4, 3) := by decide +kernel
theorem dX5_areAlike_19 : decode cX5_areAlike 19 = .ok (.iconst 0, 1) := by decide +kernel
theorem dX5_areAlike_20 : decode cX5_areAlike 20 = .ok (.istore_n 1, 1) := by decide +kernel
theorem dX5_areAlike_21 : decode cX5_areAlike 21 = .ok (.iconst 0, 1) := by decide +kernel
theorem dX5_areAlike_22 : decode cX5_areAlike 22 = .ok (.istore_n 2, 1) := by decide +kernel
theorem dX5_areAlike_23 : decode cX5_areAlike 23 = .ok (.iload_n 2, 1) := by decide +kernel
theorem dX5_areAlike_24 : decode cX5_areAlike 24 = .ok (.aload_n 0, 1) := by decide +kernel
theorem dX5_areAlike_25 : decode cX5_areAlike 25 = .ok (.getfield 277, 3) := by decide +kernel
theorem dX5_areAlike_28 : decode cX5_areAlike 28 = .ok (.if_icmp .ge 34, 3) := by decide +kernel
theorem dX5_areAlike_31 : decode cX5_areAlike 31 = .ok (.iload_n 1, 1) := by decide +kernel
theorem dX5_areAlike_32 : decode cX5_areAlike 32 = .ok (.ifCond .eq 30, 3) := by decide +kernel
theorem dX5_areAlike_35 : decode cX5_areAlike 35 = .ok (.aload_n 0, 1) := by decide +kernel
theorem dX5_areAlike_36 : decode cX5_areAlike 36 = .ok (.getfield 64, 3) := by decide +kernel
theorem dX5_areAlike_39 : decode cX5_areAlike 39 = .ok (.iload_n 2, 1) := by decide +kernel
theorem dX5_areAlike_40 : decode cX5_areAlike 40 = .ok (.iaload, 1) := by decide +kernel
theorem dX5_areAlike_41 : decode cX5_areAlike 41 = .ok (.aload_n 0, 1) := by decide +kernel
theorem dX5_areAlike_42 : decode cX5_areAlike 42 = .ok (.getfield 70, 3) := by decide +kernel
theorem dX5_areAlike_45 : decode cX5_areAlike 45 = .ok (.iload_n 2, 1) := by decide +kernel
theorem dX5_areAlike_46 : decode cX5_areAlike 46 = .ok (.iaload, 1) := by decide +kernel
theorem dX5_areAlike_47 : decode cX5_areAlike 47 = .ok (.if_icmp .ne 7, 3) := by decide +kernel
theorem dX5_areAlike_50 : decode cX5_areAlike 50 = .ok (.iconst 1, 1) := by decide +kernel
theorem dX5_areAlike_51 : decode cX5_areAlike 51 = .ok (.goto 4, 3) := by decide +kernel
theorem dX5_areAlike_54 : decode cX5_areAlike 54 = .ok (.iconst 0, 1) := by decide +kernel
theorem dX5_areAlike_55 : decode cX5_areAlike 55 = .ok (.istore_n 1, 1) := by decide +kernel
theorem dX5_areAlike_56 : decode cX5_areAlike 56 = .ok (.iinc 2 1, 3) := by decide +kernel
theorem dX5_areAlike_59 : decode cX5_areAlike 59 = .ok (.goto (-36), 3) := by decide +kernel
theorem dX5_areAlike_62 : decode cX5_areAlike 62 = .ok (.iload_n 1, 1) := by decide +kernel
theorem dX5_areAlike_63 : decode cX5_areAlike 63 = .ok (.ireturn, 1) := by decide +kernel
set_option maxRecDepth 20000 in
theorem ggX5_keepsAhead_X5_copies : GoodIn wsX5_keepsAhead wsX5_copies := goodIn_r _ [7] (by decide +kernel) (by decide +kernel)
set_option maxRecDepth 20000 in
theorem gX5_keepsAhead_X5_copies : GoodIn wsX5_keepsAhead (va_wsS RX5 196 yX5_copies wsX5_copies) := goodIn_app (goodIn_of _ (by decide +kernel)) ggX5_keepsAhead_X5_copies
theorem dX5_keepsAhead_0 : decode cX5_keepsAhead 0 = .ok (.aload_n 0, 1) := by decide +kernel
theorem dX5_keepsAhead_1 : decode cX5_keepsAhead 1 = .ok (.getfield 212, 3) := by decide +kernel
theorem dX5_keepsAhead_4 : decode cX5_keepsAhead 4 = .ok (.bipush 12, 2) := by decide +kernel
theorem dX5_keepsAhead_6 : decode cX5_keepsAhead 6 = .ok (.if_icmp .ne 44, 3) := by decide +kernel
theorem dX5_keepsAhead_9 : decode cX5_keepsAhead 9 = .ok (.iconst 0, 1) := by decide +kernel
theorem dX5_keepsAhead_10 : decode cX5_keepsAhead 10 = .ok (.istore_n 1, 1) := by decide +kernel
theorem dX5_keepsAhead_11 : decode cX5_keepsAhead 11 = .ok (.iload_n 1, 1) := by decide +kernel
theorem dX5_keepsAhead_12 : decode cX5_keepsAhead 12 = .ok (.sipush 18106, 3) := by decide +kernel
theorem dX5_keepsAhead_15 : decode cX5_keepsAhead 15 = .ok (.if_icmp .ge 25, 3) := by decide +kernel
theorem dX5_keepsAhead_18 : decode cX5_keepsAhead 18 = .ok (.aload_n 0, 1) := by decide +kernel
theorem dX5_keepsAhead_19 : decode cX5_keepsAhead 19 = .ok (.getfield 73, 3) := by decide +kernel
theorem dX5_keepsAhead_22 : decode cX5_keepsAhead 22 = .ok (.iload_n 1, 1) := by decide +kernel
theorem dX5_keepsAhead_23 : decode cX5_keepsAhead 23 = .ok (.aload_n 0, 1) := by decide +kernel
theorem dX5_keepsAhead_24 : decode cX5_keepsAhead 24 = .ok (.getfield 73, 3) := by decide +kernel
theorem dX5_keepsAhead_27 : decode cX5_keepsAhead 27 = .ok (.iload_n 1, 1) := by decide +kernel
theorem dX5_keepsAhead_28 : decode cX5_keepsAhead 28 = .ok (.sipush 1646, 3) := by decide +kernel
theorem dX5_keepsAhead_31 : decode cX5_keepsAhead 31 = .ok (.iadd, 1) := by decide +kernel
theorem dX5_keepsAhead_32 : decode cX5_keepsAhead 32 = .ok (.iaload, 1) := by decide +kernel
theorem dX5_keepsAhead_33 : decode cX5_keepsAhead 33 = .ok (.iastore, 1) := by decide +kernel
theorem dX5_keepsAhead_34 : decode cX5_keepsAhead 34 = .ok (.iinc 1 1, 3) := by decide +kernel
theorem dX5_keepsAhead_37 : decode cX5_keepsAhead 37 = .ok (.goto (-26), 3) := by decide +kernel
theorem dX5_keepsAhead_40 : decode cX5_keepsAhead 40 = .ok (.aload_n 0, 1) := by decide +kernel
theorem dX5_keepsAhead_41 : decode cX5_keepsAhead 41 = .ok (.dup, 1) := by decide +kernel
theorem dX5_keepsAhead_42 : decode cX5_keepsAhead 42 = .ok (.getfield 212, 3) := by decide +kernel
theorem dX5_keepsAhead_45 : decode cX5_keepsAhead 45 = .ok (.iconst 1, 1) := by decide +kernel
theorem dX5_keepsAhead_46 : decode cX5_keepsAhead 46 = .ok (.isub, 1) := by decide +kernel
theorem dX5_keepsAhead_47 : decode cX5_keepsAhead 47 = .ok (.putfield 212, 3) := by decide +kernel
theorem dX5_keepsAhead_50 : decode cX5_keepsAhead 50 = .ok (.aload_n 0, 1) := by decide +kernel
theorem dX5_keepsAhead_51 : decode cX5_keepsAhead 51 = .ok (.getfield 7, 3) := by decide +kernel
theorem dX5_keepsAhead_54 : decode cX5_keepsAhead 54 = .ok (.iconst 0, 1) := by decide +kernel
theorem dX5_keepsAhead_55 : decode cX5_keepsAhead 55 = .ok (.aload_n 0, 1) := by decide +kernel
theorem dX5_keepsAhead_56 : decode cX5_keepsAhead 56 = .ok (.getfield 73, 3) := by decide +kernel
theorem dX5_keepsAhead_59 : decode cX5_keepsAhead 59 = .ok (.sipush 1646, 3) := by decide +kernel
theorem dX5_keepsAhead_62 : decode cX5_keepsAhead 62 = .ok (.aload_n 0, 1) := by decide +kernel
theorem dX5_keepsAhead_63 : decode cX5_keepsAhead 63 = .ok (.getfield 212, 3) := by decide +kernel
theorem dX5_keepsAhead_66 : decode cX5_keepsAhead 66 = .ok (.imul, 1) := by decide +kernel
theorem dX5_keepsAhead_67 : decode cX5_keepsAhead 67 = .ok (.invokestatic 196, 3) := by decide +kernel
theorem dX5_keepsAhead_70 : decode cX5_keepsAhead 70 = .ok (.aload_n 0, 1) := by decide +kernel
theorem dX5_keepsAhead_71 : decode cX5_keepsAhead 71 = .ok (.dup, 1) := by decide +kernel
theorem dX5_keepsAhead_72 : decode cX5_keepsAhead 72 = .ok (.getfield 212, 3) := by decide +kernel
theorem dX5_keepsAhead_75 : decode cX5_keepsAhead 75 = .ok (.iconst 1, 1) := by decide +kernel
theorem dX5_keepsAhead_76 : decode cX5_keepsAhead 76 = .ok (.iadd, 1) := by decide +kernel
theorem dX5_keepsAhead_77 : decode cX5_keepsAhead 77 = .ok (.putfield 212, 3) := by decide +kernel
theorem dX5_keepsAhead_80 : decode cX5_keepsAhead 80 = .ok (.return_, 1) := by decide +kernel
set_option maxRecDepth 20000 in
theorem ggX5_isRun_X5_within : GoodIn wsX5_isRun wsX5_within := goodIn_r _ [4] (by decide +kernel) (by decide +kernel)
set_option maxRecDepth 20000 in
theorem gX5_isRun_X5_within : GoodIn wsX5_isRun (va_wsS RX5 89 yX5_within wsX5_within) := goodIn_app (goodIn_of _ (by decide +kernel)) ggX5_isRun_X5_within
theorem dX5_isRun_0 : decode cX5_isRun 0 = .ok (.iload_n 0, 1) := by decide +kernel
theorem dX5_isRun_1 : decode cX5_isRun 1 = .ok (.iconst 0, 1) := by decide +kernel
theorem dX5_isRun_2 : decode cX5_isRun 2 = .ok (.iconst 2, 1) := by decide +kernel
theorem dX5_isRun_3 : decode cX5_isRun 3 = .ok (.invokestatic 89, 3) := by decide +kernel
theorem dX5_isRun_6 : decode cX5_isRun 6 = .ok (.ifCond .eq 18, 3) := by decide +kernel
theorem dX5_isRun_9 : decode cX5_isRun 9 = .ok (.iload_n 1, 1) := by decide +kernel
theorem dX5_isRun_10 : decode cX5_isRun 10 = .ok (.iconst 0, 1) := by decide +kernel
theorem dX5_isRun_11 : decode cX5_isRun 11 = .ok (.sipush 9999, 3) := by decide +kernel
theorem dX5_isRun_14 : decode cX5_isRun 14 = .ok (.invokestatic 89, 3) := by decide +kernel
theorem dX5_isRun_17 : decode cX5_isRun 17 = .ok (.ifCond .eq 7, 3) := by decide +kernel
theorem dX5_isRun_20 : decode cX5_isRun 20 = .ok (.iconst 1, 1) := by decide +kernel
theorem dX5_isRun_21 : decode cX5_isRun 21 = .ok (.goto 4, 3) := by decide +kernel
theorem dX5_isRun_24 : decode cX5_isRun 24 = .ok (.iconst 0, 1) := by decide +kernel
theorem dX5_isRun_25 : decode cX5_isRun 25 = .ok (.ireturn, 1) := by decide +kernel
set_option maxRecDepth 20000 in
theorem ggX5_run_X5_isRun : GoodIn wsX5_run wsX5_isRun := goodIn_r _ [5, 6, 7, 4, 8] (by decide +kernel) (by decide +kernel)
set_option maxRecDepth 20000 in
theorem gX5_run_X5_isRun : GoodIn wsX5_run (va_wsS RX5 296 yX5_isRun wsX5_isRun) := goodIn_app (goodIn_of _ (by decide +kernel)) ggX5_run_X5_isRun
set_option maxRecDepth 20000 in
theorem ggX5_run_X5_keepsAhead : GoodIn wsX5_run wsX5_keepsAhead := goodIn_r _ [12, 13, 14, 15, 16, 17, 4, 18, 98, 99, 100, 101, 102, 103, 104, 105, 106, 107, 108, 109, 110, 111, 112, 113, 114, 115, 116, 117, 118, 119, 120, 121, 122, 123, 124, 125, 126, 127, 128, 129, 130, 131, 132, 133, 134, 135, 136, 137, 138, 139] (by decide +kernel) (by decide +kernel)
set_option maxRecDepth 20000 in
theorem gX5_run_X5_keepsAhead : GoodIn wsX5_run (wsV RX5 299 RX5 yX5_keepsAhead wsX5_keepsAhead) := goodIn_app (goodIn_of _ (by decide +kernel)) ggX5_run_X5_keepsAhead
set_option maxRecDepth 20000 in
theorem ggX5_run_X5_steps : GoodIn wsX5_run wsX5_steps := goodIn_r _ [22, 23, 15, 24, 25, 26, 27, 4, 28, 29, 30, 31, 32, 33, 34, 35, 36, 37, 38, 39, 40, 41, 6, 7, 8, 42, 43, 44, 45, 46, 47, 48, 49, 50, 51, 52, 53, 54, 55, 56, 57, 58, 59, 60, 61, 62, 63, 64, 65, 66, 67, 68, 69, 70, 71, 72, 73, 74, 75, 76, 77, 78, 79, 80, 81, 82, 83, 84, 85, 86, 87, 88, 89, 90, 91, 92, 93, 94, 95, 96, 97, 98, 99, 100, 101, 102, 103, 104, 105, 106, 107, 108, 109, 110, 111, 112, 113, 114, 115, 116, 117, 118, 119, 120, 121, 122, 123, 124, 125, 126, 127, 128, 129, 130, 131, 132, 133, 134, 135, 136, 137, 138, 139] (by decide +kernel) (by decide +kernel)
set_option maxRecDepth 20000 in
theorem gX5_run_X5_steps : GoodIn wsX5_run (wsV RX5 302 RX5 yX5_steps wsX5_steps) := goodIn_app (goodIn_of _ (by decide +kernel)) ggX5_run_X5_steps
theorem dX5_run_0 : decode cX5_run 0 = .ok (.aload_n 0, 1) := by decide +kernel
theorem dX5_run_1 : decode cX5_run 1 = .ok (.iconst 0, 1) := by decide +kernel
theorem dX5_run_2 : decode cX5_run 2 = .ok (.putfield 1, 3) := by decide +kernel
theorem dX5_run_5 : decode cX5_run 5 = .ok (.iload_n 1, 1) := by decide +kernel
theorem dX5_run_6 : decode cX5_run 6 = .ok (.iload_n 2, 1) := by decide +kernel
theorem dX5_run_7 : decode cX5_run 7 = .ok (.invokestatic 296, 3) := by decide +kernel
theorem dX5_run_10 : decode cX5_run 10 = .ok (.ifCond .ne 5, 3) := by decide +kernel
theorem dX5_run_13 : decode cX5_run 13 = .ok (.iconst (-1), 1) := by decide +kernel
theorem dX5_run_14 : decode cX5_run 14 = .ok (.ireturn, 1) := by decide +kernel
theorem dX5_run_15 : decode cX5_run 15 = .ok (.aload_n 0, 1) := by decide +kernel
theorem dX5_run_16 : decode cX5_run 16 = .ok (.invokevirtual 299, 3) := by decide +kernel
theorem dX5_run_19 : decode cX5_run 19 = .ok (.aload_n 0, 1) := by decide +kernel
theorem dX5_run_20 : decode cX5_run 20 = .ok (.iload_n 1, 1) := by decide +kernel
theorem dX5_run_21 : decode cX5_run 21 = .ok (.iload_n 2, 1) := by decide +kernel
theorem dX5_run_22 : decode cX5_run 22 = .ok (.iload_n 3, 1) := by decide +kernel
theorem dX5_run_23 : decode cX5_run 23 = .ok (.invokevirtual 302, 3) := by decide +kernel
theorem dX5_run_26 : decode cX5_run 26 = .ok (.ireturn, 1) := by decide +kernel
set_option maxRecDepth 20000 in
theorem ggX5_round_X5_keepsAhead : GoodIn wsX5_round wsX5_keepsAhead := goodIn_r _ [6, 7, 8, 9, 10, 11, 5, 12, 85, 86, 87, 88, 89, 90, 91, 92, 93, 94, 95, 96, 97, 98, 99, 100, 101, 102, 103, 104, 105, 106, 107, 108, 109, 110, 111, 112, 113, 114, 115, 116, 117, 118, 119, 120, 121, 122, 123, 124, 125, 126] (by decide +kernel) (by decide +kernel)
set_option maxRecDepth 20000 in
theorem gX5_round_X5_keepsAhead : GoodIn wsX5_round (wsV RX5 299 RX5 yX5_keepsAhead wsX5_keepsAhead) := goodIn_app (goodIn_of _ (by decide +kernel)) ggX5_round_X5_keepsAhead
set_option maxRecDepth 20000 in
theorem ggX5_round_X5_goesRound : GoodIn wsX5_round wsX5_goesRound := goodIn_r _ [16, 17, 18, 19, 20, 5, 21, 22, 23, 24, 25, 9, 26, 27, 28, 29, 30, 31, 32, 33, 34, 35, 36, 37, 38, 39, 40, 41, 42, 43, 44, 45, 46, 47, 48, 49, 50, 51, 52, 53, 54, 55, 56, 57, 58, 59, 60, 61, 62, 63, 64, 65, 66, 67, 68, 69, 70, 71, 72, 73, 74, 75, 76, 77, 78, 79, 80, 81, 82, 83, 84, 85, 86, 87, 88, 89, 90, 91, 92, 93, 94, 95, 96, 97, 98, 99, 100, 101, 102, 103, 104, 105, 106, 107, 108, 109, 110, 111, 112, 113, 114, 115, 116, 117, 118, 119, 120, 121, 122, 123, 124, 125, 126] (by decide +kernel) (by decide +kernel)
set_option maxRecDepth 20000 in
theorem gX5_round_X5_goesRound : GoodIn wsX5_round (wsV RX5 306 RX5 yX5_goesRound wsX5_goesRound) := goodIn_app (goodIn_of _ (by decide +kernel)) ggX5_round_X5_goesRound
theorem dX5_round_0 : decode cX5_round 0 = .ok (.aload_n 0, 1) := by decide +kernel
theorem dX5_round_1 : decode cX5_round 1 = .ok (.iconst 0, 1) := by decide +kernel
theorem dX5_round_2 : decode cX5_round 2 = .ok (.putfield 1, 3) := by decide +kernel
theorem dX5_round_5 : decode cX5_round 5 = .ok (.aload_n 0, 1) := by decide +kernel
theorem dX5_round_6 : decode cX5_round 6 = .ok (.invokevirtual 299, 3) := by decide +kernel
theorem dX5_round_9 : decode cX5_round 9 = .ok (.aload_n 0, 1) := by decide +kernel
theorem dX5_round_10 : decode cX5_round 10 = .ok (.invokevirtual 306, 3) := by decide +kernel
theorem dX5_round_13 : decode cX5_round 13 = .ok (.ireturn, 1) := by decide +kernel
set_option maxRecDepth 20000 in
theorem ggX5_reduce_X5_isPair : GoodIn wsX5_reduce wsX5_isPair := goodIn_r _ [6, 7, 8, 9, 5, 10, 11, 12, 13, 14, 15, 16, 17, 18, 19, 20, 21, 22, 80, 81, 82, 83, 84, 85, 86, 87, 88, 89, 90, 91, 92, 93, 94, 95, 96, 97, 98, 99, 100, 101, 102, 103, 104, 105, 106, 107, 108, 109, 110, 111, 112, 113, 114, 115, 116, 117, 118, 119, 120, 121] (by decide +kernel) (by decide +kernel)
set_option maxRecDepth 20000 in
theorem gX5_reduce_X5_isPair : GoodIn wsX5_reduce (wsV RX5 230 RX5 yX5_isPair wsX5_isPair) := goodIn_app (goodIn_of _ (by decide +kernel)) ggX5_reduce_X5_isPair
set_option maxRecDepth 20000 in
theorem ggX5_reduce_X5_canReduce : GoodIn wsX5_reduce wsX5_canReduce := goodIn_r _ [26, 27, 28, 29, 5, 30, 31, 32, 33, 34, 11, 15, 16, 17, 18, 19, 20, 21, 22, 35, 36, 37, 38, 80, 81, 82, 83, 84, 85, 86, 87, 88, 89, 90, 91, 92, 93, 94, 95, 96, 97, 98, 99, 100, 101, 102, 103, 104, 105, 106, 107, 108, 109, 110, 111, 112, 113, 114, 115, 116, 117, 118, 119, 120, 121] (by decide +kernel) (by decide +kernel)
set_option maxRecDepth 20000 in
theorem gX5_reduce_X5_canReduce : GoodIn wsX5_reduce (wsV RX5 233 RX5 yX5_canReduce wsX5_canReduce) := goodIn_app (goodIn_of _ (by decide +kernel)) ggX5_reduce_X5_canReduce
set_option maxRecDepth 20000 in
theorem ggX5_reduce_X5_ruleOf : GoodIn wsX5_reduce wsX5_ruleOf := goodIn_r _ [30, 31, 32, 33, 5, 34, 11, 15, 16, 17, 18, 19, 20, 21, 22, 80, 81, 82, 83, 84, 85, 86, 87, 88, 89, 90, 91, 92, 93, 94, 95, 96, 97, 98, 99, 100, 101, 102, 103, 104, 105, 106, 107, 108, 109, 110, 111, 112, 113, 114, 115, 116, 117, 118, 119, 120, 121] (by decide +kernel) (by decide +kernel)
set_option maxRecDepth 20000 in
theorem gX5_reduce_X5_ruleOf : GoodIn wsX5_reduce (wsV RX5 227 RX5 yX5_ruleOf wsX5_ruleOf) := goodIn_app (goodIn_of _ (by decide +kernel)) ggX5_reduce_X5_ruleOf
set_option maxRecDepth 20000 in
theorem ggX5_reduce_X5_keepsAhead : GoodIn wsX5_reduce wsX5_keepsAhead := goodIn_r _ [42, 43, 44, 11, 45, 46, 5, 47, 80, 81, 82, 83, 84, 85, 86, 87, 88, 89, 90, 91, 92, 93, 94, 95, 96, 97, 98, 99, 100, 101, 102, 103, 104, 105, 106, 107, 108, 109, 110, 111, 112, 113, 114, 115, 116, 117, 118, 119, 120, 121] (by decide +kernel) (by decide +kernel)
set_option maxRecDepth 20000 in
theorem gX5_reduce_X5_keepsAhead : GoodIn wsX5_reduce (wsV RX5 299 RX5 yX5_keepsAhead wsX5_keepsAhead) := goodIn_app (goodIn_of _ (by decide +kernel)) ggX5_reduce_X5_keepsAhead
set_option maxRecDepth 20000 in
theorem ggX5_reduce_X5_reduces : GoodIn wsX5_reduce wsX5_reduces := goodIn_r _ [51, 11, 52, 53, 54, 15, 16, 17, 5, 18, 19, 20, 21, 22, 27, 28, 29, 30, 31, 32, 33, 34, 55, 56, 57, 58, 59, 60, 61, 62, 63, 64, 65, 66, 67, 68, 69, 70, 71, 72, 73, 74, 75, 76, 77, 78, 79, 80, 81, 82, 83, 84, 85, 86, 87, 88, 89, 90, 91, 92, 93, 94, 95, 96, 97, 98, 99, 100, 101, 102, 103, 104, 105, 106, 107, 108, 109, 110, 111, 112, 113, 114, 115, 116, 117, 118, 119, 120, 121] (by decide +kernel) (by decide +kernel)
set_option maxRecDepth 20000 in
theorem gX5_reduce_X5_reduces : GoodIn wsX5_reduce (wsV RX5 262 RX5 yX5_reduces wsX5_reduces) := goodIn_app (goodIn_of _ (by decide +kernel)) ggX5_reduce_X5_reduces
theorem dX5_reduce_0 : decode cX5_reduce 0 = .ok (.aload_n 0, 1) := by decide +kernel
theorem dX5_reduce_1 : decode cX5_reduce 1 = .ok (.iconst 0, 1) := by decide +kernel
theorem dX5_reduce_2 : decode cX5_reduce 2 = .ok (.putfield 1, 3) := by decide +kernel
theorem dX5_reduce_5 : decode cX5_reduce 5 = .ok (.aload_n 0, 1) := by decide +kernel
theorem dX5_reduce_6 : decode cX5_reduce 6 = .ok (.iload_n 1, 1) := by decide +kernel
theorem dX5_reduce_7 : decode cX5_reduce 7 = .ok (.invokevirtual 230, 3) := by decide +kernel
theorem dX5_reduce_10 : decode cX5_reduce 10 = .ok (.ifCond .eq 11, 3) := by decide +kernel
theorem dX5_reduce_13 : decode cX5_reduce 13 = .ok (.aload_n 0, 1) := by decide +kernel
theorem dX5_reduce_14 : decode cX5_reduce 14 = .ok (.iload_n 1, 1) := by decide +kernel
theorem dX5_reduce_15 : decode cX5_reduce 15 = .ok (.invokevirtual 233, 3) := by decide +kernel
theorem dX5_reduce_18 : decode cX5_reduce 18 = .ok (.ifCond .ne 5, 3) := by decide +kernel
theorem dX5_reduce_21 : decode cX5_reduce 21 = .ok (.iconst (-1), 1) := by decide +kernel
theorem dX5_reduce_22 : decode cX5_reduce 22 = .ok (.ireturn, 1) := by decide +kernel
theorem dX5_reduce_23 : decode cX5_reduce 23 = .ok (.aload_n 0, 1) := by decide +kernel
theorem dX5_reduce_24 : decode cX5_reduce 24 = .ok (.iload_n 1, 1) := by decide +kernel
theorem dX5_reduce_25 : decode cX5_reduce 25 = .ok (.invokevirtual 227, 3) := by decide +kernel
theorem dX5_reduce_28 : decode cX5_reduce 28 = .ok (.istore_n 2, 1) := by decide +kernel
theorem dX5_reduce_29 : decode cX5_reduce 29 = .ok (.aload_n 0, 1) := by decide +kernel
theorem dX5_reduce_30 : decode cX5_reduce 30 = .ok (.invokevirtual 299, 3) := by decide +kernel
theorem dX5_reduce_33 : decode cX5_reduce 33 = .ok (.aload_n 0, 1) := by decide +kernel
theorem dX5_reduce_34 : decode cX5_reduce 34 = .ok (.iload_n 1, 1) := by decide +kernel
theorem dX5_reduce_35 : decode cX5_reduce 35 = .ok (.invokevirtual 262, 3) := by decide +kernel
theorem dX5_reduce_38 : decode cX5_reduce 38 = .ok (.iload_n 2, 1) := by decide +kernel
theorem dX5_reduce_39 : decode cX5_reduce 39 = .ok (.ireturn, 1) := by decide +kernel
set_option maxRecDepth 20000 in
theorem ggX5_tried_X5_isRun : GoodIn wsX5_tried wsX5_isRun := goodIn_r _ [8, 9, 10, 7, 11] (by decide +kernel) (by decide +kernel)
set_option maxRecDepth 20000 in
theorem gX5_tried_X5_isRun : GoodIn wsX5_tried (va_wsS RX5 296 yX5_isRun wsX5_isRun) := goodIn_app (goodIn_of _ (by decide +kernel)) ggX5_tried_X5_isRun
set_option maxRecDepth 20000 in
theorem ggX5_tried_X5_within : GoodIn wsX5_tried wsX5_within := goodIn_r _ [11] (by decide +kernel) (by decide +kernel)
set_option maxRecDepth 20000 in
theorem gX5_tried_X5_within : GoodIn wsX5_tried (va_wsS RX5 89 yX5_within wsX5_within) := goodIn_app (goodIn_of _ (by decide +kernel)) ggX5_tried_X5_within
set_option maxRecDepth 20000 in
theorem ggX5_tried_X5_copies : GoodIn wsX5_tried wsX5_copies := goodIn_r _ [14] (by decide +kernel) (by decide +kernel)
set_option maxRecDepth 20000 in
theorem gX5_tried_X5_copies : GoodIn wsX5_tried (va_wsS RX5 196 yX5_copies wsX5_copies) := goodIn_app (goodIn_of _ (by decide +kernel)) ggX5_tried_X5_copies
set_option maxRecDepth 20000 in
theorem ggX5_tried_X5_steps : GoodIn wsX5_tried wsX5_steps := goodIn_r _ [18, 19, 2, 4, 20, 21, 22, 7, 23, 24, 25, 26, 27, 28, 29, 30, 31, 32, 33, 34, 35, 36, 9, 10, 11, 37, 38, 39, 40, 41, 42, 43, 44, 45, 46, 47, 48, 49, 50, 51, 52, 53, 54, 55, 56, 57, 58, 59, 60, 61, 62, 63, 64, 65, 66, 67, 68, 69, 70, 71, 72, 73, 74, 75, 76, 77, 78, 79, 80, 81, 82, 83, 84, 85, 86, 87, 88, 89, 90, 91, 92, 93, 94, 95, 96, 97, 98, 99, 100, 101, 102, 103, 104, 105, 106, 107, 108, 109, 110, 111, 112, 113, 114, 115, 116, 117, 118, 119, 120, 121, 122, 123, 124, 125, 126, 127, 128, 129, 130, 131, 132, 133, 134] (by decide +kernel) (by decide +kernel)
set_option maxRecDepth 20000 in
theorem gX5_tried_X5_steps : GoodIn wsX5_tried (wsV RX5 302 RX5 yX5_steps wsX5_steps) := goodIn_app (goodIn_of _ (by decide +kernel)) ggX5_tried_X5_steps
set_option maxRecDepth 20000 in
theorem ggX5_tried_X5_pairs : GoodIn wsX5_tried wsX5_pairs := goodIn_r _ [28, 29, 30, 31, 7, 32, 33, 34, 35, 36, 2, 9, 10, 11, 37, 38, 39, 40, 41, 42, 43, 44, 45, 46, 47, 48, 49, 50, 51, 52, 53, 54, 55, 56, 57, 58, 59, 60, 93, 94, 95, 96, 97, 98, 99, 100, 101, 102, 103, 104, 105, 106, 107, 108, 109, 110, 111, 112, 113, 114, 115, 116, 117, 118, 119, 120, 121, 122, 123, 124, 125, 126, 127, 128, 129, 130, 131, 132, 133, 134] (by decide +kernel) (by decide +kernel)
set_option maxRecDepth 20000 in
theorem gX5_tried_X5_pairs : GoodIn wsX5_tried (wsV RX5 248 RX5 yX5_pairs wsX5_pairs) := goodIn_app (goodIn_of _ (by decide +kernel)) ggX5_tried_X5_pairs
theorem dX5_tried_0 : decode cX5_tried 0 = .ok (.aload_n 0, 1) := by decide +kernel
theorem dX5_tried_1 : decode cX5_tried 1 = .ok (.iconst 0, 1) := by decide +kernel
theorem dX5_tried_2 : decode cX5_tried 2 = .ok (.putfield 1, 3) := by decide +kernel
theorem dX5_tried_5 : decode cX5_tried 5 = .ok (.iload_n 1, 1) := by decide +kernel
theorem dX5_tried_6 : decode cX5_tried 6 = .ok (.iload_n 2, 1) := by decide +kernel
theorem dX5_tried_7 : decode cX5_tried 7 = .ok (.invokestatic 296, 3) := by decide +kernel
theorem dX5_tried_10 : decode cX5_tried 10 = .ok (.ifCond .eq 13, 3) := by decide +kernel
theorem dX5_tried_13 : decode cX5_tried 13 = .ok (.iload 4, 2) := by decide +kernel
theorem dX5_tried_15 : decode cX5_tried 15 = .ok (.iconst 0, 1) := by decide +kernel
theorem dX5_tried_16 : decode cX5_tried 16 = .ok (.iconst 2, 1) := by decide +kernel
theorem dX5_tried_17 : decode cX5_tried 17 = .ok (.invokestatic 89, 3) := by decide +kernel
theorem dX5_tried_20 : decode cX5_tried 20 = .ok (.ifCond .ne 5, 3) := by decide +kernel
theorem dX5_tried_23 : decode cX5_tried 23 = .ok (.iconst (-1), 1) := by decide +kernel
theorem dX5_tried_24 : decode cX5_tried 24 = .ok (.ireturn, 1) := by decide +kernel
theorem dX5_tried_25 : decode cX5_tried 25 = .ok (.aload_n 0, 1) := by decide +kernel
theorem dX5_tried_26 : decode cX5_tried 26 = .ok (.getfield 7, 3) := by decide +kernel
theorem dX5_tried_29 : decode cX5_tried 29 = .ok (.iconst 0, 1) := by decide +kernel
theorem dX5_tried_30 : decode cX5_tried 30 = .ok (.aload_n 0, 1) := by decide +kernel
theorem dX5_tried_31 : decode cX5_tried 31 = .ok (.getfield 76, 3) := by decide +kernel
theorem dX5_tried_34 : decode cX5_tried 34 = .ok (.iconst 0, 1) := by decide +kernel
theorem dX5_tried_35 : decode cX5_tried 35 = .ok (.invokestatic 196, 3) := by decide +kernel
theorem dX5_tried_38 : decode cX5_tried 38 = .ok (.aload_n 0, 1) := by decide +kernel
theorem dX5_tried_39 : decode cX5_tried 39 = .ok (.iload_n 1, 1) := by decide +kernel
theorem dX5_tried_40 : decode cX5_tried 40 = .ok (.iload_n 2, 1) := by decide +kernel
theorem dX5_tried_41 : decode cX5_tried 41 = .ok (.iload_n 3, 1) := by decide +kernel
theorem dX5_tried_42 : decode cX5_tried 42 = .ok (.invokevirtual 302, 3) := by decide +kernel
theorem dX5_tried_45 : decode cX5_tried 45 = .ok (.istore 5, 2) := by decide +kernel
theorem dX5_tried_47 : decode cX5_tried 47 = .ok (.aload_n 0, 1) := by decide +kernel
theorem dX5_tried_48 : decode cX5_tried 48 = .ok (.iconst 0, 1) := by decide +kernel
theorem dX5_tried_49 : decode cX5_tried 49 = .ok (.invokevirtual 248, 3) := by decide +kernel
theorem dX5_tried_52 : decode cX5_tried 52 = .ok (.istore 6, 2) := by decide +kernel
theorem dX5_tried_54 : decode cX5_tried 54 = .ok (.aload_n 0, 1) := by decide +kernel
theorem dX5_tried_55 : decode cX5_tried 55 = .ok (.getfield 76, 3) := by decide +kernel
theorem dX5_tried_58 : decode cX5_tried 58 = .ok (.iconst 0, 1) := by decide +kernel
theorem dX5_tried_59 : decode cX5_tried 59 = .ok (.aload_n 0, 1) := by decide +kernel
theorem dX5_tried_60 : decode cX5_tried 60 = .ok (.getfield 7, 3) := by decide +kernel
theorem dX5_tried_63 : decode cX5_tried 63 = .ok (.iconst 0, 1) := by decide +kernel
theorem dX5_tried_64 : decode cX5_tried 64 = .ok (.invokestatic 196, 3) := by decide +kernel
theorem dX5_tried_67 : decode cX5_tried 67 = .ok (.iload 4, 2) := by decide +kernel
theorem dX5_tried_69 : decode cX5_tried 69 = .ok (.ifCond .ne 8, 3) := by decide +kernel
theorem dX5_tried_72 : decode cX5_tried 72 = .ok (.iload 5, 2) := by decide +kernel
theorem dX5_tried_74 : decode cX5_tried 74 = .ok (.goto 18, 3) := by decide +kernel
theorem dX5_tried_77 : decode cX5_tried 77 = .ok (.iload 4, 2) := by decide +kernel
theorem dX5_tried_79 : decode cX5_tried 79 = .ok (.iconst 1, 1) := by decide +kernel
theorem dX5_tried_80 : decode cX5_tried 80 = .ok (.if_icmp .ne 10, 3) := by decide +kernel
theorem dX5_tried_83 : decode cX5_tried 83 = .ok (.aload_n 0, 1) := by decide +kernel
theorem dX5_tried_84 : decode cX5_tried 84 = .ok (.getfield 256, 3) := by decide +kernel
theorem dX5_tried_87 : decode cX5_tried 87 = .ok (.goto 5, 3) := by decide +kernel
theorem dX5_tried_90 : decode cX5_tried 90 = .ok (.iload 6, 2) := by decide +kernel
theorem dX5_tried_92 : decode cX5_tried 92 = .ok (.ireturn, 1) := by decide +kernel
set_option maxRecDepth 20000 in
theorem ggX5_rounds_X5_copies : GoodIn wsX5_rounds wsX5_copies := goodIn_r _ [7] (by decide +kernel) (by decide +kernel)
set_option maxRecDepth 20000 in
theorem gX5_rounds_X5_copies : GoodIn wsX5_rounds (va_wsS RX5 196 yX5_copies wsX5_copies) := goodIn_app (goodIn_of _ (by decide +kernel)) ggX5_rounds_X5_copies
set_option maxRecDepth 20000 in
theorem ggX5_rounds_X5_goesRound : GoodIn wsX5_rounds wsX5_goesRound := goodIn_r _ [11, 12, 13, 14, 15, 6, 16, 17, 18, 19, 20, 2, 21, 22, 23, 24, 25, 26, 27, 28, 29, 30, 31, 32, 33, 34, 35, 36, 37, 38, 39, 40, 41, 42, 43, 44, 45, 46, 47, 48, 49, 50, 51, 52, 53, 54, 55, 56, 57, 58, 59, 60, 61, 62, 63, 64, 65, 66, 67, 68, 69, 70, 71, 72, 73, 74, 75, 76, 77, 78, 79, 80, 81, 82, 83, 84, 85, 86, 87, 88, 89, 90, 91, 92, 93, 94, 95, 96, 97, 98, 99, 100, 101, 102, 103, 104, 105, 106, 107, 108, 109, 110, 111, 112, 113, 114, 115, 116, 117, 118, 119, 120, 121] (by decide +kernel) (by decide +kernel)
set_option maxRecDepth 20000 in
theorem gX5_rounds_X5_goesRound : GoodIn wsX5_rounds (wsV RX5 306 RX5 yX5_goesRound wsX5_goesRound) := goodIn_app (goodIn_of _ (by decide +kernel)) ggX5_rounds_X5_goesRound
theorem dX5_rounds_0 : decode cX5_rounds 0 = .ok (.aload_n 0, 1) := by decide +kernel
theorem dX5_rounds_1 : decode cX5_rounds 1 = .ok (.iconst 0, 1) := by decide +kernel
theorem dX5_rounds_2 : decode cX5_rounds 2 = .ok (.putfield 1, 3) := by decide +kernel
theorem dX5_rounds_5 : decode cX5_rounds 5 = .ok (.aload_n 0, 1) := by decide +kernel
theorem dX5_rounds_6 : decode cX5_rounds 6 = .ok (.getfield 7, 3) := by decide +kernel
theorem dX5_rounds_9 : decode cX5_rounds 9 = .ok (.iconst 0, 1) := by decide +kernel
theorem dX5_rounds_10 : decode cX5_rounds 10 = .ok (.aload_n 0, 1) := by decide +kernel
theorem dX5_rounds_11 : decode cX5_rounds 11 = .ok (.getfield 76, 3) := by decide +kernel
theorem dX5_rounds_14 : decode cX5_rounds 14 = .ok (.iconst 0, 1) := by decide +kernel
theorem dX5_rounds_15 : decode cX5_rounds 15 = .ok (.invokestatic 196, 3) := by decide +kernel
theorem dX5_rounds_18 : decode cX5_rounds 18 = .ok (.iconst 0, 1) := by decide +kernel
theorem dX5_rounds_19 : decode cX5_rounds 19 = .ok (.istore_n 1, 1) := by decide +kernel
theorem dX5_rounds_20 : decode cX5_rounds 20 = .ok (.iload_n 1, 1) := by decide +kernel
theorem dX5_rounds_21 : decode cX5_rounds 21 = .ok (.sipush 500, 3) := by decide +kernel
theorem dX5_rounds_24 : decode cX5_rounds 24 = .ok (.if_icmp .gt 16, 3) := by decide +kernel
theorem dX5_rounds_27 : decode cX5_rounds 27 = .ok (.aload_n 0, 1) := by decide +kernel
theorem dX5_rounds_28 : decode cX5_rounds 28 = .ok (.invokevirtual 306, 3) := by decide +kernel
theorem dX5_rounds_31 : decode cX5_rounds 31 = .ok (.ifCond .le 9, 3) := by decide +kernel
theorem dX5_rounds_34 : decode cX5_rounds 34 = .ok (.iinc 1 1, 3) := by decide +kernel
theorem dX5_rounds_37 : decode cX5_rounds 37 = .ok (.goto (-17), 3) := by decide +kernel
theorem dX5_rounds_40 : decode cX5_rounds 40 = .ok (.aload_n 0, 1) := by decide +kernel
theorem dX5_rounds_41 : decode cX5_rounds 41 = .ok (.getfield 76, 3) := by decide +kernel
theorem dX5_rounds_44 : decode cX5_rounds 44 = .ok (.iconst 0, 1) := by decide +kernel
theorem dX5_rounds_45 : decode cX5_rounds 45 = .ok (.aload_n 0, 1) := by decide +kernel
theorem dX5_rounds_46 : decode cX5_rounds 46 = .ok (.getfield 7, 3) := by decide +kernel
theorem dX5_rounds_49 : decode cX5_rounds 49 = .ok (.iconst 0, 1) := by decide +kernel
theorem dX5_rounds_50 : decode cX5_rounds 50 = .ok (.invokestatic 196, 3) := by decide +kernel
theorem dX5_rounds_53 : decode cX5_rounds 53 = .ok (.iload_n 1, 1) := by decide +kernel
theorem dX5_rounds_54 : decode cX5_rounds 54 = .ok (.sipush 500, 3) := by decide +kernel
theorem dX5_rounds_57 : decode cX5_rounds 57 = .ok (.if_icmp .le 8, 3) := by decide +kernel
theorem dX5_rounds_60 : decode cX5_rounds 60 = .ok (.bipush (-2), 2) := by decide +kernel
theorem dX5_rounds_62 : decode cX5_rounds 62 = .ok (.goto 4, 3) := by decide +kernel
theorem dX5_rounds_65 : decode cX5_rounds 65 = .ok (.iload_n 1, 1) := by decide +kernel
theorem dX5_rounds_66 : decode cX5_rounds 66 = .ok (.ireturn, 1) := by decide +kernel
set_option maxRecDepth 20000 in
theorem ggX5_alike_X5_isRun : GoodIn wsX5_alike wsX5_isRun := goodIn_r _ [8, 9, 10, 7, 11] (by decide +kernel) (by decide +kernel)
set_option maxRecDepth 20000 in
theorem gX5_alike_X5_isRun : GoodIn wsX5_alike (va_wsS RX5 296 yX5_isRun wsX5_isRun) := goodIn_app (goodIn_of _ (by decide +kernel)) ggX5_alike_X5_isRun
set_option maxRecDepth 20000 in
theorem ggX5_alike_X5_within : GoodIn wsX5_alike wsX5_within := goodIn_r _ [11] (by decide +kernel) (by decide +kernel)
set_option maxRecDepth 20000 in
theorem gX5_alike_X5_within : GoodIn wsX5_alike (va_wsS RX5 89 yX5_within wsX5_within) := goodIn_app (goodIn_of _ (by decide +kernel)) ggX5_alike_X5_within
set_option maxRecDepth 20000 in
theorem ggX5_alike_X5_copies : GoodIn wsX5_alike wsX5_copies := goodIn_r _ [14] (by decide +kernel) (by decide +kernel)
set_option maxRecDepth 20000 in
theorem gX5_alike_X5_copies : GoodIn wsX5_alike (va_wsS RX5 196 yX5_copies wsX5_copies) := goodIn_app (goodIn_of _ (by decide +kernel)) ggX5_alike_X5_copies
set_option maxRecDepth 20000 in
theorem ggX5_alike_X5_steps : GoodIn wsX5_alike wsX5_steps := goodIn_r _ [18, 19, 2, 20, 21, 22, 23, 7, 24, 25, 26, 27, 28, 29, 30, 31, 32, 33, 34, 35, 36, 37, 9, 10, 11, 38, 39, 40, 41, 42, 43, 44, 45, 46, 47, 48, 49, 50, 51, 52, 53, 54, 55, 56, 57, 58, 59, 60, 61, 62, 63, 64, 65, 66, 67, 68, 69, 70, 71, 72, 73, 74, 75, 76, 77, 78, 79, 80, 81, 82, 83, 84, 85, 86, 87, 88, 89, 90, 91, 92, 93, 127, 128, 129, 130, 131, 132, 133, 134, 135, 136, 137, 138, 139, 140, 141, 142, 143, 144, 145, 146, 147, 148, 149, 150, 151, 152, 153, 154, 155, 156, 157, 158, 159, 160, 161, 162, 163, 164, 165, 166, 167, 168] (by decide +kernel) (by decide +kernel)
set_option maxRecDepth 20000 in
theorem gX5_alike_X5_steps : GoodIn wsX5_alike (wsV RX5 302 RX5 yX5_steps wsX5_steps) := goodIn_app (goodIn_of _ (by decide +kernel)) ggX5_alike_X5_steps
set_option maxRecDepth 20000 in
theorem ggX5_alike_X5_pairs : GoodIn wsX5_alike wsX5_pairs := goodIn_r _ [29, 30, 31, 32, 7, 33, 34, 35, 36, 37, 2, 9, 10, 11, 38, 39, 40, 41, 42, 43, 44, 45, 46, 47, 48, 49, 50, 51, 52, 53, 54, 55, 56, 57, 58, 59, 60, 61, 127, 128, 129, 130, 131, 132, 133, 134, 135, 136, 137, 138, 139, 140, 141, 142, 143, 144, 145, 146, 147, 148, 149, 150, 151, 152, 153, 154, 155, 156, 157, 158, 159, 160, 161, 162, 163, 164, 165, 166, 167, 168] (by decide +kernel) (by decide +kernel)
set_option maxRecDepth 20000 in
theorem gX5_alike_X5_pairs : GoodIn wsX5_alike (wsV RX5 248 RX5 yX5_pairs wsX5_pairs) := goodIn_app (goodIn_of _ (by decide +kernel)) ggX5_alike_X5_pairs
set_option maxRecDepth 20000 in
theorem ggX5_alike_X5_laysBy : GoodIn wsX5_alike wsX5_laysBy := goodIn_r _ [97, 98, 99, 100, 101, 102, 103, 104, 7, 105, 106, 107, 108, 109, 110, 111, 112, 2, 9, 10, 11, 113, 114, 115, 116, 117, 118, 119, 120, 121, 122, 42, 43, 44, 45, 54, 55, 56, 57, 127, 128, 129, 130, 131, 132, 133, 134, 135, 136, 137, 138, 139, 140, 141, 142, 143, 144, 145, 146, 147, 148, 149, 150, 151, 152, 153, 154, 155, 156, 157, 158, 159, 160, 161, 162, 163, 164, 165, 166, 167, 168] (by decide +kernel) (by decide +kernel)
set_option maxRecDepth 20000 in
theorem gX5_alike_X5_laysBy : GoodIn wsX5_alike (wsV RX5 312 RX5 yX5_laysBy wsX5_laysBy) := goodIn_app (goodIn_of _ (by decide +kernel)) ggX5_alike_X5_laysBy
set_option maxRecDepth 20000 in
theorem ggX5_alike_X5_areAlike : GoodIn wsX5_alike wsX5_areAlike := goodIn_r _ [126, 98, 99, 101, 100, 102, 103, 104, 7, 105, 106, 107, 108, 109, 110, 111, 112, 2, 9, 10, 11, 113, 114, 115, 116, 117, 118, 119, 120, 121, 122, 42, 43, 44, 45, 54, 55, 56, 57, 127, 128, 129, 130, 131, 132, 133, 134, 135, 136, 137, 138, 139, 140, 141, 142, 143, 144, 145, 146, 147, 148, 149, 150, 151, 152, 153, 154, 155, 156, 157, 158, 159, 160, 161, 162, 163, 164, 165, 166, 167, 168] (by decide +kernel) (by decide +kernel)
set_option maxRecDepth 20000 in
theorem gX5_alike_X5_areAlike : GoodIn wsX5_alike (wsV RX5 315 RX5 yX5_areAlike wsX5_areAlike) := goodIn_app (goodIn_of _ (by decide +kernel)) ggX5_alike_X5_areAlike
theorem dX5_alike_0 : decode cX5_alike 0 = .ok (.aload_n 0, 1) := by decide +kernel
theorem dX5_alike_1 : decode cX5_alike 1 = .ok (.iconst 0, 1) := by decide +kernel
theorem dX5_alike_2 : decode cX5_alike 2 = .ok (.putfield 1, 3) := by decide +kernel
theorem dX5_alike_5 : decode cX5_alike 5 = .ok (.iload_n 1, 1) := by decide +kernel
theorem dX5_alike_6 : decode cX5_alike 6 = .ok (.iload_n 3, 1) := by decide +kernel
theorem dX5_alike_7 : decode cX5_alike 7 = .ok (.invokestatic 296, 3) := by decide +kernel
theorem dX5_alike_10 : decode cX5_alike 10 = .ok (.ifCond .eq 12, 3) := by decide +kernel
theorem dX5_alike_13 : decode cX5_alike 13 = .ok (.iload_n 2, 1) := by decide +kernel
theorem dX5_alike_14 : decode cX5_alike 14 = .ok (.iconst 0, 1) := by decide +kernel
theorem dX5_alike_15 : decode cX5_alike 15 = .ok (.iconst 2, 1) := by decide +kernel
theorem dX5_alike_16 : decode cX5_alike 16 = .ok (.invokestatic 89, 3) := by decide +kernel
theorem dX5_alike_19 : decode cX5_alike 19 = .ok (.ifCond .ne 5, 3) := by decide +kernel
theorem dX5_alike_22 : decode cX5_alike 22 = .ok (.iconst (-1), 1) := by decide +kernel
theorem dX5_alike_23 : decode cX5_alike 23 = .ok (.ireturn, 1) := by decide +kernel
theorem dX5_alike_24 : decode cX5_alike 24 = .ok (.aload_n 0, 1) := by decide +kernel
theorem dX5_alike_25 : decode cX5_alike 25 = .ok (.getfield 7, 3) := by decide +kernel
theorem dX5_alike_28 : decode cX5_alike 28 = .ok (.iconst 0, 1) := by decide +kernel
theorem dX5_alike_29 : decode cX5_alike 29 = .ok (.aload_n 0, 1) := by decide +kernel
theorem dX5_alike_30 : decode cX5_alike 30 = .ok (.getfield 76, 3) := by decide +kernel
theorem dX5_alike_33 : decode cX5_alike 33 = .ok (.iconst 0, 1) := by decide +kernel
theorem dX5_alike_34 : decode cX5_alike 34 = .ok (.invokestatic 196, 3) := by decide +kernel
theorem dX5_alike_37 : decode cX5_alike 37 = .ok (.aload_n 0, 1) := by decide +kernel
theorem dX5_alike_38 : decode cX5_alike 38 = .ok (.aload_n 0, 1) := by decide +kernel
theorem dX5_alike_39 : decode cX5_alike 39 = .ok (.iload_n 1, 1) := by decide +kernel
theorem dX5_alike_40 : decode cX5_alike 40 = .ok (.iload_n 3, 1) := by decide +kernel
theorem dX5_alike_41 : decode cX5_alike 41 = .ok (.iload 4, 2) := by decide +kernel
theorem dX5_alike_43 : decode cX5_alike 43 = .ok (.invokevirtual 302, 3) := by decide +kernel
theorem dX5_alike_46 : decode cX5_alike 46 = .ok (.putfield 309, 3) := by decide +kernel
theorem dX5_alike_49 : decode cX5_alike 49 = .ok (.aload_n 0, 1) := by decide +kernel
theorem dX5_alike_50 : decode cX5_alike 50 = .ok (.iconst 1, 1) := by decide +kernel
theorem dX5_alike_51 : decode cX5_alike 51 = .ok (.invokevirtual 248, 3) := by decide +kernel
theorem dX5_alike_54 : decode cX5_alike 54 = .ok (.ifCond .le 7, 3) := by decide +kernel
theorem dX5_alike_57 : decode cX5_alike 57 = .ok (.iconst 1, 1) := by decide +kernel
theorem dX5_alike_58 : decode cX5_alike 58 = .ok (.goto 4, 3) := by decide +kernel
theorem dX5_alike_61 : decode cX5_alike 61 = .ok (.iconst 0, 1) := by decide +kernel
theorem dX5_alike_62 : decode cX5_alike 62 = .ok (.istore 5, 2) := by decide +kernel
theorem dX5_alike_64 : decode cX5_alike 64 = .ok (.aload_n 0, 1) := by decide +kernel
theorem dX5_alike_65 : decode cX5_alike 65 = .ok (.invokevirtual 312, 3) := by decide +kernel
theorem dX5_alike_68 : decode cX5_alike 68 = .ok (.aload_n 0, 1) := by decide +kernel
theorem dX5_alike_69 : decode cX5_alike 69 = .ok (.getfield 76, 3) := by decide +kernel
theorem dX5_alike_72 : decode cX5_alike 72 = .ok (.iconst 0, 1) := by decide +kernel
theorem dX5_alike_73 : decode cX5_alike 73 = .ok (.aload_n 0, 1) := by decide +kernel
theorem dX5_alike_74 : decode cX5_alike 74 = .ok (.getfield 7, 3) := by decide +kernel
theorem dX5_alike_77 : decode cX5_alike 77 = .ok (.iconst 0, 1) := by decide +kernel
theorem dX5_alike_78 : decode cX5_alike 78 = .ok (.invokestatic 196, 3) := by decide +kernel
theorem dX5_alike_81 : decode cX5_alike 81 = .ok (.aload_n 0, 1) := by decide +kernel
theorem dX5_alike_82 : decode cX5_alike 82 = .ok (.aload_n 0, 1) := by decide +kernel
theorem dX5_alike_83 : decode cX5_alike 83 = .ok (.iload_n 2, 1) := by decide +kernel
theorem dX5_alike_84 : decode cX5_alike 84 = .ok (.iload_n 3, 1) := by decide +kernel
theorem dX5_alike_85 : decode cX5_alike 85 = .ok (.iload 4, 2) := by decide +kernel
theorem dX5_alike_87 : decode cX5_alike 87 = .ok (.invokevirtual 302, 3) := by decide +kernel
theorem dX5_alike_90 : decode cX5_alike 90 = .ok (.putfield 309, 3) := by decide +kernel
theorem dX5_alike_93 : decode cX5_alike 93 = .ok (.iload 5, 2) := by decide +kernel
theorem dX5_alike_95 : decode cX5_alike 95 = .ok (.ifCond .ne 11, 3) := by decide +kernel
theorem dX5_alike_98 : decode cX5_alike 98 = .ok (.aload_n 0, 1) := by decide +kernel
theorem dX5_alike_99 : decode cX5_alike 99 = .ok (.iconst 1, 1) := by decide +kernel
theorem dX5_alike_100 : decode cX5_alike 100 = .ok (.invokevirtual 248, 3) := by decide +kernel
theorem dX5_alike_103 : decode cX5_alike 103 = .ok (.ifCond .le 7, 3) := by decide +kernel
theorem dX5_alike_106 : decode cX5_alike 106 = .ok (.iconst 1, 1) := by decide +kernel
theorem dX5_alike_107 : decode cX5_alike 107 = .ok (.goto 4, 3) := by decide +kernel
theorem dX5_alike_110 : decode cX5_alike 110 = .ok (.iconst 0, 1) := by decide +kernel
theorem dX5_alike_111 : decode cX5_alike 111 = .ok (.istore 5, 2) := by decide +kernel
theorem dX5_alike_113 : decode cX5_alike 113 = .ok (.aload_n 0, 1) := by decide +kernel
theorem dX5_alike_114 : decode cX5_alike 114 = .ok (.invokevirtual 315, 3) := by decide +kernel
theorem dX5_alike_117 : decode cX5_alike 117 = .ok (.istore 6, 2) := by decide +kernel
theorem dX5_alike_119 : decode cX5_alike 119 = .ok (.aload_n 0, 1) := by decide +kernel
theorem dX5_alike_120 : decode cX5_alike 120 = .ok (.getfield 76, 3) := by decide +kernel
theorem dX5_alike_123 : decode cX5_alike 123 = .ok (.iconst 0, 1) := by decide +kernel
theorem dX5_alike_124 : decode cX5_alike 124 = .ok (.aload_n 0, 1) := by decide +kernel
theorem dX5_alike_125 : decode cX5_alike 125 = .ok (.getfield 7, 3) := by decide +kernel
theorem dX5_alike_128 : decode cX5_alike 128 = .ok (.iconst 0, 1) := by decide +kernel
theorem dX5_alike_129 : decode cX5_alike 129 = .ok (.invokestatic 196, 3) := by decide +kernel
theorem dX5_alike_132 : decode cX5_alike 132 = .ok (.iload 5, 2) := by decide +kernel
theorem dX5_alike_134 : decode cX5_alike 134 = .ok (.ifCond .eq 8, 3) := by decide +kernel
theorem dX5_alike_137 : decode cX5_alike 137 = .ok (.bipush (-2), 2) := by decide +kernel
theorem dX5_alike_139 : decode cX5_alike 139 = .ok (.goto 13, 3) := by decide +kernel
theorem dX5_alike_142 : decode cX5_alike 142 = .ok (.iload 6, 2) := by decide +kernel
theorem dX5_alike_144 : decode cX5_alike 144 = .ok (.ifCond .eq 7, 3) := by decide +kernel
theorem dX5_alike_147 : decode cX5_alike 147 = .ok (.iconst 1, 1) := by decide +kernel
theorem dX5_alike_148 : decode cX5_alike 148 = .ok (.goto 4, 3) := by decide +kernel
theorem dX5_alike_151 : decode cX5_alike 151 = .ok (.iconst 0, 1) := by decide +kernel
theorem dX5_alike_152 : decode cX5_alike 152 = .ok (.ireturn, 1) := by decide +kernel
set_option maxRecDepth 20000 in
theorem ggX5_likeImage_X5_within : GoodIn wsX5_likeImage wsX5_within := goodIn_r _ [9] (by decide +kernel) (by decide +kernel)
set_option maxRecDepth 20000 in
theorem gX5_likeImage_X5_within : GoodIn wsX5_likeImage (va_wsS RX5 89 yX5_within wsX5_within) := goodIn_app (goodIn_of _ (by decide +kernel)) ggX5_likeImage_X5_within
set_option maxRecDepth 20000 in
theorem ggX5_likeImage_X5_laysBy : GoodIn wsX5_likeImage wsX5_laysBy := goodIn_r _ [13, 14, 15, 16, 17, 18, 19, 20, 8, 21, 22, 23, 24, 25, 26, 27, 28, 3, 6, 7, 9, 29, 30, 31, 32, 33, 34, 35, 36, 37, 38, 39, 40, 41, 42, 43, 44, 45, 46, 54, 55, 56, 57, 58, 59, 60, 61, 62, 63, 64, 65, 66, 67, 68, 69, 70, 71, 72, 73, 74, 75, 76, 77, 78, 79, 80, 81, 82, 83, 84, 85, 86, 87, 88, 89, 90, 91, 92, 93, 94, 95] (by decide +kernel) (by decide +kernel)
set_option maxRecDepth 20000 in
theorem gX5_likeImage_X5_laysBy : GoodIn wsX5_likeImage (wsV RX5 312 RX5 yX5_laysBy wsX5_laysBy) := goodIn_app (goodIn_of _ (by decide +kernel)) ggX5_likeImage_X5_laysBy
set_option maxRecDepth 20000 in
theorem ggX5_likeImage_X5_copies : GoodIn wsX5_likeImage wsX5_copies := goodIn_r _ [49] (by decide +kernel) (by decide +kernel)
set_option maxRecDepth 20000 in
theorem gX5_likeImage_X5_copies : GoodIn wsX5_likeImage (va_wsS RX5 196 yX5_copies wsX5_copies) := goodIn_app (goodIn_of _ (by decide +kernel)) ggX5_likeImage_X5_copies
set_option maxRecDepth 20000 in
theorem ggX5_likeImage_X5_areAlike : GoodIn wsX5_likeImage wsX5_areAlike := goodIn_r _ [53, 14, 15, 17, 16, 18, 19, 20, 8, 21, 22, 23, 24, 25, 26, 27, 28, 3, 6, 7, 9, 29, 30, 31, 32, 33, 34, 35, 36, 37, 38, 39, 40, 41, 42, 43, 44, 45, 46, 54, 55, 56, 57, 58, 59, 60, 61, 62, 63, 64, 65, 66, 67, 68, 69, 70, 71, 72, 73, 74, 75, 76, 77, 78, 79, 80, 81, 82, 83, 84, 85, 86, 87, 88, 89, 90, 91, 92, 93, 94, 95] (by decide +kernel) (by decide +kernel)
set_option maxRecDepth 20000 in
theorem gX5_likeImage_X5_areAlike : GoodIn wsX5_likeImage (wsV RX5 315 RX5 yX5_areAlike wsX5_areAlike) := goodIn_app (goodIn_of _ (by decide +kernel)) ggX5_likeImage_X5_areAlike
theorem dX5_likeImage_0 : decode cX5_likeImage 0 = .ok (.aload_n 0, 1) := by decide +kernel
theorem dX5_likeImage_1 : decode cX5_likeImage 1 = .ok (.iconst 0, 1) := by decide +kernel
theorem dX5_likeImage_2 : decode cX5_likeImage 2 = .ok (.putfield 1, 3) := by decide +kernel
theorem dX5_likeImage_5 : decode cX5_likeImage 5 = .ok (.iload_n 1, 1) := by decide +kernel
theorem dX5_likeImage_6 : decode cX5_likeImage 6 = .ok (.iconst 0, 1) := by decide +kernel
theorem dX5_likeImage_7 : decode cX5_likeImage 7 = .ok (.iconst 1, 1) := by decide +kernel
theorem dX5_likeImage_8 : decode cX5_likeImage 8 = .ok (.invokestatic 89, 3) := by decide +kernel
theorem dX5_likeImage_11 : decode cX5_likeImage 11 = .ok (.ifCond .eq 12, 3) := by decide +kernel
theorem dX5_likeImage_14 : decode cX5_likeImage 14 = .ok (.aload_n 0, 1) := by decide +kernel
theorem dX5_likeImage_15 : decode cX5_likeImage 15 = .ok (.getfield 79, 3) := by decide +kernel
theorem dX5_likeImage_18 : decode cX5_likeImage 18 = .ok (.iload_n 1, 1) := by decide +kernel
theorem dX5_likeImage_19 : decode cX5_likeImage 19 = .ok (.baload, 1) := by decide +kernel
theorem dX5_likeImage_20 : decode cX5_likeImage 20 = .ok (.ifCond .ne 5, 3) := by decide +kernel
theorem dX5_likeImage_23 : decode cX5_likeImage 23 = .ok (.iconst (-1), 1) := by decide +kernel
theorem dX5_likeImage_24 : decode cX5_likeImage 24 = .ok (.ireturn, 1) := by decide +kernel
theorem dX5_likeImage_25 : decode cX5_likeImage 25 = .ok (.aload_n 0, 1) := by decide +kernel
theorem dX5_likeImage_26 : decode cX5_likeImage 26 = .ok (.invokevirtual 312, 3) := by decide +kernel
theorem dX5_likeImage_29 : decode cX5_likeImage 29 = .ok (.aload_n 0, 1) := by decide +kernel
theorem dX5_likeImage_30 : decode cX5_likeImage 30 = .ok (.getfield 7, 3) := by decide +kernel
theorem dX5_likeImage_33 : decode cX5_likeImage 33 = .ok (.iconst 0, 1) := by decide +kernel
theorem dX5_likeImage_34 : decode cX5_likeImage 34 = .ok (.aload_n 0, 1) := by decide +kernel
theorem dX5_likeImage_35 : decode cX5_likeImage 35 = .ok (.getfield 76, 3) := by decide +kernel
theorem dX5_likeImage_38 : decode cX5_likeImage 38 = .ok (.iconst 0, 1) := by decide +kernel
theorem dX5_likeImage_39 : decode cX5_likeImage 39 = .ok (.invokestatic 196, 3) := by decide +kernel
theorem dX5_likeImage_42 : decode cX5_likeImage 42 = .ok (.aload_n 0, 1) := by decide +kernel
theorem dX5_likeImage_43 : decode cX5_likeImage 43 = .ok (.getfield 82, 3) := by decide +kernel
theorem dX5_likeImage_46 : decode cX5_likeImage 46 = .ok (.sipush 1646, 3) := by decide +kernel
theorem dX5_likeImage_49 : decode cX5_likeImage 49 = .ok (.iload_n 1, 1) := by decide +kernel
theorem dX5_likeImage_50 : decode cX5_likeImage 50 = .ok (.imul, 1) := by decide +kernel
theorem dX5_likeImage_51 : decode cX5_likeImage 51 = .ok (.aload_n 0, 1) := by decide +kernel
theorem dX5_likeImage_52 : decode cX5_likeImage 52 = .ok (.getfield 7, 3) := by decide +kernel
theorem dX5_likeImage_55 : decode cX5_likeImage 55 = .ok (.iconst 0, 1) := by decide +kernel
theorem dX5_likeImage_56 : decode cX5_likeImage 56 = .ok (.invokestatic 196, 3) := by decide +kernel
theorem dX5_likeImage_59 : decode cX5_likeImage 59 = .ok (.aload_n 0, 1) := by decide +kernel
theorem dX5_likeImage_60 : decode cX5_likeImage 60 = .ok (.invokevirtual 315, 3) := by decide +kernel
theorem dX5_likeImage_63 : decode cX5_likeImage 63 = .ok (.istore_n 2, 1) := by decide +kernel
theorem dX5_likeImage_64 : decode cX5_likeImage 64 = .ok (.aload_n 0, 1) := by decide +kernel
theorem dX5_likeImage_65 : decode cX5_likeImage 65 = .ok (.getfield 76, 3) := by decide +kernel
theorem dX5_likeImage_68 : decode cX5_likeImage 68 = .ok (.iconst 0, 1) := by decide +kernel
theorem dX5_likeImage_69 : decode cX5_likeImage 69 = .ok (.aload_n 0, 1) := by decide +kernel
theorem dX5_likeImage_70 : decode cX5_likeImage 70 = .ok (.getfield 7, 3) := by decide +kernel
theorem dX5_likeImage_73 : decode cX5_likeImage 73 = .ok (.iconst 0, 1) := by decide +kernel
theorem dX5_likeImage_74 : decode cX5_likeImage 74 = .ok (.invokestatic 196, 3) := by decide +kernel
theorem dX5_likeImage_77 : decode cX5_likeImage 77 = .ok (.iload_n 2, 1) := by decide +kernel
theorem dX5_likeImage_78 : decode cX5_likeImage 78 = .ok (.ifCond .eq 7, 3) := by decide +kernel
theorem dX5_likeImage_81 : decode cX5_likeImage 81 = .ok (.iconst 1, 1) := by decide +kernel
theorem dX5_likeImage_82 : decode cX5_likeImage 82 = .ok (.goto 4, 3) := by decide +kernel
theorem dX5_likeImage_85 : decode cX5_likeImage 85 = .ok (.iconst 0, 1) := by decide +kernel
theorem dX5_likeImage_86 : decode cX5_likeImage 86 = .ok (.ireturn, 1) := by decide +kernel
set_option maxRecDepth 20000 in
theorem ggX5_replaces_X5_linkOf : GoodIn wsX5_replaces wsX5_linkOf := goodIn_r _ [6, 1, 11, 12, 13, 14, 15, 16, 17, 18, 19, 20, 21, 22, 23, 24, 25, 26, 27, 28, 29, 30, 31, 32, 33, 34, 35, 36, 37, 38, 39, 40, 41, 42, 43, 44, 45, 46, 47, 48, 49, 50, 51, 52] (by decide +kernel) (by decide +kernel)
set_option maxRecDepth 20000 in
theorem gX5_replaces_X5_linkOf : GoodIn wsX5_replaces (wsV RX5 215 RX5 yX5_linkOf wsX5_linkOf) := goodIn_app (goodIn_of _ (by decide +kernel)) ggX5_replaces_X5_linkOf
set_option maxRecDepth 20000 in
theorem ggX5_replaces_X5_links : GoodIn wsX5_replaces wsX5_links := goodIn_r _ [10, 1, 11, 12, 13, 14, 15, 16, 17, 18, 19, 20, 21, 22, 23, 24, 25, 26, 27, 28, 29, 30, 31, 32, 33, 34, 35, 36, 37, 38, 39, 40, 41, 42, 43, 44, 45, 46, 47, 48, 49, 50, 51, 52] (by decide +kernel) (by decide +kernel)
set_option maxRecDepth 20000 in
theorem gX5_replaces_X5_links : GoodIn wsX5_replaces (wsV RX5 172 RX5 yX5_links wsX5_links) := goodIn_app (goodIn_of _ (by decide +kernel)) ggX5_replaces_X5_links
theorem dX5_replaces_0 : decode cX5_replaces 0 = .ok (.aload_n 0, 1) := by decide +kernel
theorem dX5_replaces_1 : decode cX5_replaces 1 = .ok (.sipush 1000, 3) := by decide +kernel
theorem dX5_replaces_4 : decode cX5_replaces 4 = .ok (.iload_n 1, 1) := by decide +kernel
theorem dX5_replaces_5 : decode cX5_replaces 5 = .ok (.iadd, 1) := by decide +kernel
theorem dX5_replaces_6 : decode cX5_replaces 6 = .ok (.invokevirtual 215, 3) := by decide +kernel
theorem dX5_replaces_9 : decode cX5_replaces 9 = .ok (.istore_n 3, 1) := by decide +kernel
theorem dX5_replaces_10 : decode cX5_replaces 10 = .ok (.aload_n 0, 1) := by decide +kernel
theorem dX5_replaces_11 : decode cX5_replaces 11 = .ok (.getfield 7, 3) := by decide +kernel
theorem dX5_replaces_14 : decode cX5_replaces 14 = .ok (.bipush 14, 2) := by decide +kernel
theorem dX5_replaces_16 : decode cX5_replaces 16 = .ok (.iload_n 1, 1) := by decide +kernel
theorem dX5_replaces_17 : decode cX5_replaces 17 = .ok (.iadd, 1) := by decide +kernel
theorem dX5_replaces_18 : decode cX5_replaces 18 = .ok (.iconst 0, 1) := by decide +kernel
theorem dX5_replaces_19 : decode cX5_replaces 19 = .ok (.iastore, 1) := by decide +kernel
theorem dX5_replaces_20 : decode cX5_replaces 20 = .ok (.aload_n 0, 1) := by decide +kernel
theorem dX5_replaces_21 : decode cX5_replaces 21 = .ok (.iload_n 2, 1) := by decide +kernel
theorem dX5_replaces_22 : decode cX5_replaces 22 = .ok (.iload_n 3, 1) := by decide +kernel
theorem dX5_replaces_23 : decode cX5_replaces 23 = .ok (.invokevirtual 172, 3) := by decide +kernel
theorem dX5_replaces_26 : decode cX5_replaces 26 = .ok (.return_, 1) := by decide +kernel
set_option maxRecDepth 20000 in
theorem ggX5_put_X5_isRoot : GoodIn wsX5_put wsX5_isRoot := goodIn_r _ [7, 2, 8, 9, 6, 10, 44, 45, 46, 47, 48, 49, 50, 51, 52, 53, 54, 55, 56, 57, 58, 59, 60, 61, 62, 63, 64, 65, 66, 67, 68, 69, 70, 71, 72, 73, 74, 75, 76, 77, 78, 79, 80, 81, 82, 83, 84, 85] (by decide +kernel) (by decide +kernel)
set_option maxRecDepth 20000 in
theorem gX5_put_X5_isRoot : GoodIn wsX5_put (wsV RX5 268 RX5 yX5_isRoot wsX5_isRoot) := goodIn_app (goodIn_of _ (by decide +kernel)) ggX5_put_X5_isRoot
set_option maxRecDepth 20000 in
theorem ggX5_put_X5_within : GoodIn wsX5_put wsX5_within := goodIn_r _ [10] (by decide +kernel) (by decide +kernel)
set_option maxRecDepth 20000 in
theorem gX5_put_X5_within : GoodIn wsX5_put (va_wsS RX5 89 yX5_within wsX5_within) := goodIn_app (goodIn_of _ (by decide +kernel)) ggX5_put_X5_within
set_option maxRecDepth 20000 in
theorem ggX5_put_X5_hasRoom : GoodIn wsX5_put wsX5_hasRoom := goodIn_r _ [14, 2, 44, 45, 46, 47, 48, 49, 50, 51, 52, 53, 54, 55, 56, 57, 58, 59, 60, 61, 62, 63, 64, 65, 66, 67, 68, 69, 70, 71, 72, 73, 74, 75, 76, 77, 78, 79, 80, 81, 82, 83, 84, 85] (by decide +kernel) (by decide +kernel)
set_option maxRecDepth 20000 in
theorem gX5_put_X5_hasRoom : GoodIn wsX5_put (wsV RX5 152 RX5 yX5_hasRoom wsX5_hasRoom) := goodIn_app (goodIn_of _ (by decide +kernel)) ggX5_put_X5_hasRoom
set_option maxRecDepth 20000 in
theorem ggX5_put_X5_keepsAhead : GoodIn wsX5_put wsX5_keepsAhead := goodIn_r _ [18, 19, 20, 2, 21, 22, 6, 23, 44, 45, 46, 47, 48, 49, 50, 51, 52, 53, 54, 55, 56, 57, 58, 59, 60, 61, 62, 63, 64, 65, 66, 67, 68, 69, 70, 71, 72, 73, 74, 75, 76, 77, 78, 79, 80, 81, 82, 83, 84, 85] (by decide +kernel) (by decide +kernel)
set_option maxRecDepth 20000 in
theorem gX5_put_X5_keepsAhead : GoodIn wsX5_put (wsV RX5 299 RX5 yX5_keepsAhead wsX5_keepsAhead) := goodIn_app (goodIn_of _ (by decide +kernel)) ggX5_put_X5_keepsAhead
set_option maxRecDepth 20000 in
theorem ggX5_put_X5_makesNumber : GoodIn wsX5_put wsX5_makesNumber := goodIn_r _ [27, 28, 29, 30, 6, 31, 2, 32, 33, 34, 35, 44, 45, 46, 47, 48, 49, 50, 51, 52, 53, 54, 55, 56, 57, 58, 59, 60, 61, 62, 63, 64, 65, 66, 67, 68, 69, 70, 71, 72, 73, 74, 75, 76, 77, 78, 79, 80, 81, 82, 83, 84, 85] (by decide +kernel) (by decide +kernel)
set_option maxRecDepth 20000 in
theorem gX5_put_X5_makesNumber : GoodIn wsX5_put (wsV RX5 175 RX5 yX5_makesNumber wsX5_makesNumber) := goodIn_app (goodIn_of _ (by decide +kernel)) ggX5_put_X5_makesNumber
set_option maxRecDepth 20000 in
theorem ggX5_put_X5_replaces : GoodIn wsX5_put wsX5_replaces := goodIn_r _ [39, 2, 40, 41, 42, 6, 43, 32, 33, 34, 35, 44, 45, 46, 47, 48, 49, 50, 51, 52, 53, 54, 55, 56, 57, 58, 59, 60, 61, 62, 63, 64, 65, 66, 67, 68, 69, 70, 71, 72, 73, 74, 75, 76, 77, 78, 79, 80, 81, 82, 83, 84, 85] (by decide +kernel) (by decide +kernel)
set_option maxRecDepth 20000 in
theorem gX5_put_X5_replaces : GoodIn wsX5_put (wsV RX5 318 RX5 yX5_replaces wsX5_replaces) := goodIn_app (goodIn_of _ (by decide +kernel)) ggX5_put_X5_replaces
theorem dX5_put_0 : decode cX5_put 0 = .ok (.aload_n 0, 1) := by decide +kernel
theorem dX5_put_1 : decode cX5_put 1 = .ok (.iconst 0, 1) := by decide +kernel
theorem dX5_put_2 : decode cX5_put 2 = .ok (.putfield 1, 3) := by decide +kernel
theorem dX5_put_5 : decode cX5_put 5 = .ok (.aload_n 0, 1) := by decide +kernel
theorem dX5_put_6 : decode cX5_put 6 = .ok (.iload_n 1, 1) := by decide +kernel
theorem dX5_put_7 : decode cX5_put 7 = .ok (.invokevirtual 268, 3) := by decide +kernel
theorem dX5_put_10 : decode cX5_put 10 = .ok (.ifCond .eq 25, 3) := by decide +kernel
theorem dX5_put_13 : decode cX5_put 13 = .ok (.iload_n 2, 1) := by decide +kernel
theorem dX5_put_14 : decode cX5_put 14 = .ok (.iconst 0, 1) := by decide +kernel
theorem dX5_put_15 : decode cX5_put 15 = .ok (.bipush 20, 2) := by decide +kernel
theorem dX5_put_17 : decode cX5_put 17 = .ok (.invokestatic 89, 3) := by decide +kernel
theorem dX5_put_20 : decode cX5_put 20 = .ok (.ifCond .eq 15, 3) := by decide +kernel
theorem dX5_put_23 : decode cX5_put 23 = .ok (.aload_n 0, 1) := by decide +kernel
theorem dX5_put_24 : decode cX5_put 24 = .ok (.iconst 2, 1) := by decide +kernel
theorem dX5_put_25 : decode cX5_put 25 = .ok (.iload_n 2, 1) := by decide +kernel
theorem dX5_put_26 : decode cX5_put 26 = .ok (.imul, 1) := by decide +kernel
theorem dX5_put_27 : decode cX5_put 27 = .ok (.iconst 1, 1) := by decide +kernel
theorem dX5_put_28 : decode cX5_put 28 = .ok (.iadd, 1) := by decide +kernel
theorem dX5_put_29 : decode cX5_put 29 = .ok (.invokevirtual 152, 3) := by decide +kernel
theorem dX5_put_32 : decode cX5_put 32 = .ok (.ifCond .ne 5, 3) := by decide +kernel
theorem dX5_put_35 : decode cX5_put 35 = .ok (.iconst (-1), 1) := by decide +kernel
theorem dX5_put_36 : decode cX5_put 36 = .ok (.ireturn, 1) := by decide +kernel
theorem dX5_put_37 : decode cX5_put 37 = .ok (.aload_n 0, 1) := by decide +kernel
theorem dX5_put_38 : decode cX5_put 38 = .ok (.invokevirtual 299, 3) := by decide +kernel
theorem dX5_put_41 : decode cX5_put 41 = .ok (.aload_n 0, 1) := by decide +kernel
theorem dX5_put_42 : decode cX5_put 42 = .ok (.iload_n 1, 1) := by decide +kernel
theorem dX5_put_43 : decode cX5_put 43 = .ok (.aload_n 0, 1) := by decide +kernel
theorem dX5_put_44 : decode cX5_put 44 = .ok (.iload_n 2, 1) := by decide +kernel
theorem dX5_put_45 : decode cX5_put 45 = .ok (.invokevirtual 175, 3) := by decide +kernel
theorem dX5_put_48 : decode cX5_put 48 = .ok (.invokevirtual 318, 3) := by decide +kernel
theorem dX5_put_51 : decode cX5_put 51 = .ok (.aload_n 0, 1) := by decide +kernel
theorem dX5_put_52 : decode cX5_put 52 = .ok (.getfield 7, 3) := by decide +kernel
theorem dX5_put_55 : decode cX5_put 55 = .ok (.iconst 1, 1) := by decide +kernel
theorem dX5_put_56 : decode cX5_put 56 = .ok (.iaload, 1) := by decide +kernel
theorem dX5_put_57 : decode cX5_put 57 = .ok (.ireturn, 1) := by decide +kernel
set_option maxRecDepth 20000 in
theorem ggX5_parts_X5_isRoot : GoodIn wsX5_parts wsX5_isRoot := goodIn_r _ [6, 1, 7, 8, 5, 9, 39, 40, 41, 42, 43, 44, 45, 46, 47, 48, 49, 50, 51, 52, 53, 54, 55, 56, 57, 58, 59, 60, 61, 62, 63, 64, 65, 66, 67, 68, 69, 70, 71, 72, 73, 74, 75, 76, 77, 78, 79, 80] (by decide +kernel) (by decide +kernel)
set_option maxRecDepth 20000 in
theorem gX5_parts_X5_isRoot : GoodIn wsX5_parts (wsV RX5 268 RX5 yX5_isRoot wsX5_isRoot) := goodIn_app (goodIn_of _ (by decide +kernel)) ggX5_parts_X5_isRoot
set_option maxRecDepth 20000 in
theorem ggX5_parts_X5_hasRoom : GoodIn wsX5_parts wsX5_hasRoom := goodIn_r _ [13, 1, 39, 40, 41, 42, 43, 44, 45, 46, 47, 48, 49, 50, 51, 52, 53, 54, 55, 56, 57, 58, 59, 60, 61, 62, 63, 64, 65, 66, 67, 68, 69, 70, 71, 72, 73, 74, 75, 76, 77, 78, 79, 80] (by decide +kernel) (by decide +kernel)
set_option maxRecDepth 20000 in
theorem gX5_parts_X5_hasRoom : GoodIn wsX5_parts (wsV RX5 152 RX5 yX5_hasRoom wsX5_hasRoom) := goodIn_app (goodIn_of _ (by decide +kernel)) ggX5_parts_X5_hasRoom
set_option maxRecDepth 20000 in
theorem ggX5_parts_X5_keepsAhead : GoodIn wsX5_parts wsX5_keepsAhead := goodIn_r _ [17, 18, 19, 1, 20, 21, 5, 22, 39, 40, 41, 42, 43, 44, 45, 46, 47, 48, 49, 50, 51, 52, 53, 54, 55, 56, 57, 58, 59, 60, 61, 62, 63, 64, 65, 66, 67, 68, 69, 70, 71, 72, 73, 74, 75, 76, 77, 78, 79, 80] (by decide +kernel) (by decide +kernel)
set_option maxRecDepth 20000 in
theorem gX5_parts_X5_keepsAhead : GoodIn wsX5_parts (wsV RX5 299 RX5 yX5_keepsAhead wsX5_keepsAhead) := goodIn_app (goodIn_of _ (by decide +kernel)) ggX5_parts_X5_keepsAhead
set_option maxRecDepth 20000 in
theorem ggX5_parts_X5_makes : GoodIn wsX5_parts wsX5_makes := goodIn_r _ [26, 1, 39, 40, 41, 42, 43, 44, 45, 46, 47, 48, 49, 50, 51, 52, 53, 54, 55, 56, 57, 58, 59, 60, 61, 62, 63, 64, 65, 66, 67, 68, 69, 70, 71, 72, 73, 74, 75, 76, 77, 78, 79, 80] (by decide +kernel) (by decide +kernel)
set_option maxRecDepth 20000 in
theorem gX5_parts_X5_makes : GoodIn wsX5_parts (wsV RX5 155 RX5 yX5_makes wsX5_makes) := goodIn_app (goodIn_of _ (by decide +kernel)) ggX5_parts_X5_makes
set_option maxRecDepth 20000 in
theorem ggX5_parts_X5_links : GoodIn wsX5_parts wsX5_links := goodIn_r _ [30, 1, 39, 40, 41, 42, 43, 44, 45, 46, 47, 48, 49, 50, 51, 52, 53, 54, 55, 56, 57, 58, 59, 60, 61, 62, 63, 64, 65, 66, 67, 68, 69, 70, 71, 72, 73, 74, 75, 76, 77, 78, 79, 80] (by decide +kernel) (by decide +kernel)
set_option maxRecDepth 20000 in
theorem gX5_parts_X5_links : GoodIn wsX5_parts (wsV RX5 172 RX5 yX5_links wsX5_links) := goodIn_app (goodIn_of _ (by decide +kernel)) ggX5_parts_X5_links
set_option maxRecDepth 20000 in
theorem ggX5_parts_X5_replaces : GoodIn wsX5_parts wsX5_replaces := goodIn_r _ [34, 1, 35, 36, 37, 5, 38, 27, 28, 29, 30, 39, 40, 41, 42, 43, 44, 45, 46, 47, 48, 49, 50, 51, 52, 53, 54, 55, 56, 57, 58, 59, 60, 61, 62, 63, 64, 65, 66, 67, 68, 69, 70, 71, 72, 73, 74, 75, 76, 77, 78, 79, 80] (by decide +kernel) (by decide +kernel)
set_option maxRecDepth 20000 in
theorem gX5_parts_X5_replaces : GoodIn wsX5_parts (wsV RX5 318 RX5 yX5_replaces wsX5_replaces) := goodIn_app (goodIn_of _ (by decide +kernel)) ggX5_parts_X5_replaces
theorem dX5_parts_0 : decode cX5_parts 0 = .ok (.aload_n 0, 1) := by decide +kernel
theorem dX5_parts_1 : decode cX5_parts 1 = .ok (.iload_n 1, 1) := by decide +kernel
theorem dX5_parts_2 : decode cX5_parts 2 = .ok (.invokevirtual 268, 3) := by decide +kernel
theorem dX5_parts_5 : decode cX5_parts 5 = .ok (.ifCond .eq 25, 3) := by decide +kernel
theorem dX5_parts_8 : decode cX5_parts 8 = .ok (.aload_n 0, 1) := by decide +kernel
theorem dX5_parts_9 : decode cX5_parts 9 = .ok (.iconst 1, 1) := by decide +kernel
theorem dX5_parts_10 : decode cX5_parts 10 = .ok (.invokevirtual 152, 3) := by decide +kernel
theorem dX5_parts_13 : decode cX5_parts 13 = .ok (.ifCond .eq 17, 3) := by decide +kernel
theorem dX5_parts_16 : decode cX5_parts 16 = .ok (.aload_n 0, 1) := by decide +kernel
theorem dX5_parts_17 : decode cX5_parts 17 = .ok (.getfield 7, 3) := by decide +kernel
theorem dX5_parts_20 : decode cX5_parts 20 = .ok (.bipush 6, 2) := by decide +kernel
theorem dX5_parts_22 : decode cX5_parts 22 = .ok (.iaload, 1) := by decide +kernel
theorem dX5_parts_23 : decode cX5_parts 23 = .ok (.iconst 2, 1) := by decide +kernel
theorem dX5_parts_24 : decode cX5_parts 24 = .ok (.iadd, 1) := by decide +kernel
theorem dX5_parts_25 : decode cX5_parts 25 = .ok (.bipush 16, 2) := by decide +kernel
theorem dX5_parts_27 : decode cX5_parts 27 = .ok (.if_icmp .le 5, 3) := by decide +kernel
theorem dX5_parts_30 : decode cX5_parts 30 = .ok (.iconst (-1), 1) := by decide +kernel
theorem dX5_parts_31 : decode cX5_parts 31 = .ok (.ireturn, 1) := by decide +kernel
theorem dX5_parts_32 : decode cX5_parts 32 = .ok (.aload_n 0, 1) := by decide +kernel
theorem dX5_parts_33 : decode cX5_parts 33 = .ok (.invokevirtual 299, 3) := by decide +kernel
theorem dX5_parts_36 : decode cX5_parts 36 = .ok (.aload_n 0, 1) := by decide +kernel
theorem dX5_parts_37 : decode cX5_parts 37 = .ok (.iload_n 2, 1) := by decide +kernel
theorem dX5_parts_38 : decode cX5_parts 38 = .ok (.invokevirtual 155, 3) := by decide +kernel
theorem dX5_parts_41 : decode cX5_parts 41 = .ok (.istore_n 3, 1) := by decide +kernel
theorem dX5_parts_42 : decode cX5_parts 42 = .ok (.aload_n 0, 1) := by decide +kernel
theorem dX5_parts_43 : decode cX5_parts 43 = .ok (.getfield 7, 3) := by decide +kernel
theorem dX5_parts_46 : decode cX5_parts 46 = .ok (.bipush 6, 2) := by decide +kernel
theorem dX5_parts_48 : decode cX5_parts 48 = .ok (.iaload, 1) := by decide +kernel
theorem dX5_parts_49 : decode cX5_parts 49 = .ok (.istore 4, 2) := by decide +kernel
theorem dX5_parts_51 : decode cX5_parts 51 = .ok (.iconst 1, 1) := by decide +kernel
theorem dX5_parts_52 : decode cX5_parts 52 = .ok (.istore 5, 2) := by decide +kernel
theorem dX5_parts_54 : decode cX5_parts 54 = .ok (.iload 5, 2) := by decide +kernel
theorem dX5_parts_56 : decode cX5_parts 56 = .ok (.iconst 3, 1) := by decide +kernel
theorem dX5_parts_57 : decode cX5_parts 57 = .ok (.if_icmp .ge 56, 3) := by decide +kernel
theorem dX5_parts_60 : decode cX5_parts 60 = .ok (.aload_n 0, 1) := by decide +kernel
theorem dX5_parts_61 : decode cX5_parts 61 = .ok (.getfield 7, 3) := by decide +kernel
theorem dX5_parts_64 : decode cX5_parts 64 = .ok (.bipush 6, 2) := by decide +kernel
theorem dX5_parts_66 : decode cX5_parts 66 = .ok (.iaload, 1) := by decide +kernel
theorem dX5_parts_67 : decode cX5_parts 67 = .ok (.istore 6, 2) := by decide +kernel
theorem dX5_parts_69 : decode cX5_parts 69 = .ok (.aload_n 0, 1) := by decide +kernel
theorem dX5_parts_70 : decode cX5_parts 70 = .ok (.getfield 7, 3) := by decide +kernel
theorem dX5_parts_73 : decode cX5_parts 73 = .ok (.bipush 14, 2) := by decide +kernel
theorem dX5_parts_75 : decode cX5_parts 75 = .ok (.iload 6, 2) := by decide +kernel
theorem dX5_parts_77 : decode cX5_parts 77 = .ok (.iadd, 1) := by decide +kernel
theorem dX5_parts_78 : decode cX5_parts 78 = .ok (.iconst 1, 1) := by decide +kernel
theorem dX5_parts_79 : decode cX5_parts 79 = .ok (.iastore, 1) := by decide +kernel
theorem dX5_parts_80 : decode cX5_parts 80 = .ok (.aload_n 0, 1) := by decide +kernel
theorem dX5_parts_81 : decode cX5_parts 81 = .ok (.getfield 7, 3) := by decide +kernel
theorem dX5_parts_84 : decode cX5_parts 84 = .ok (.bipush 6, 2) := by decide +kernel
theorem dX5_parts_86 : decode cX5_parts 86 = .ok (.dup2, 1) := by decide +kernel
theorem dX5_parts_87 : decode cX5_parts 87 = .ok (.iaload, 1) := by decide +kernel
theorem dX5_parts_88 : decode cX5_parts 88 = .ok (.iconst 1, 1) := by decide +kernel
theorem dX5_parts_89 : decode cX5_parts 89 = .ok (.iadd, 1) := by decide +kernel
theorem dX5_parts_90 : decode cX5_parts 90 = .ok (.iastore, 1) := by decide +kernel
theorem dX5_parts_91 : decode cX5_parts 91 = .ok (.aload_n 0, 1) := by decide +kernel
theorem dX5_parts_92 : decode cX5_parts 92 = .ok (.iconst 3, 1) := by decide +kernel
theorem dX5_parts_93 : decode cX5_parts 93 = .ok (.iload_n 3, 1) := by decide +kernel
theorem dX5_parts_94 : decode cX5_parts 94 = .ok (.imul, 1) := by decide +kernel
theorem dX5_parts_95 : decode cX5_parts 95 = .ok (.iload 5, 2) := by decide +kernel
theorem dX5_parts_97 : decode cX5_parts 97 = .ok (.iadd, 1) := by decide +kernel
theorem dX5_parts_98 : decode cX5_parts 98 = .ok (.sipush 1000, 3) := by decide +kernel
theorem dX5_parts_101 : decode cX5_parts 101 = .ok (.iload 6, 2) := by decide +kernel
theorem dX5_parts_103 : decode cX5_parts 103 = .ok (.iadd, 1) := by decide +kernel
theorem dX5_parts_104 : decode cX5_parts 104 = .ok (.invokevirtual 172, 3) := by decide +kernel
theorem dX5_parts_107 : decode cX5_parts 107 = .ok (.iinc 5 1, 3) := by decide +kernel
theorem dX5_parts_110 : decode cX5_parts 110 = .ok (.goto (-56), 3) := by decide +kernel
theorem dX5_parts_113 : decode cX5_parts 113 = .ok (.aload_n 0, 1) := by decide +kernel
theorem dX5_parts_114 : decode cX5_parts 114 = .ok (.iload_n 1, 1) := by decide +kernel
theorem dX5_parts_115 : decode cX5_parts 115 = .ok (.iconst 3, 1) := by decide +kernel
theorem dX5_parts_116 : decode cX5_parts 116 = .ok (.iload_n 3, 1) := by decide +kernel
theorem dX5_parts_117 : decode cX5_parts 117 = .ok (.imul, 1) := by decide +kernel
theorem dX5_parts_118 : decode cX5_parts 118 = .ok (.invokevirtual 318, 3) := by decide +kernel
theorem dX5_parts_121 : decode cX5_parts 121 = .ok (.iload 4, 2) := by decide +kernel
theorem dX5_parts_123 : decode cX5_parts 123 = .ok (.ireturn, 1) := by decide +kernel
set_option maxRecDepth 20000 in
theorem ggX5_split_X5_parts : GoodIn wsX5_split wsX5_parts := goodIn_r _ [6, 7, 8, 9, 10, 5, 11, 12, 13, 14, 15, 16, 17, 18, 19, 20, 21, 22, 23, 24, 25, 26, 27, 28, 29, 30, 31, 32, 33, 34, 35, 36, 37, 38, 39, 40, 41, 42, 43, 44, 45, 46, 47, 48, 49, 50, 51, 52, 53, 54, 55, 56, 57, 58, 59, 60, 61, 62, 63, 64, 65, 66, 67, 68, 69, 70, 71, 72, 73, 74, 75, 76, 77, 78, 79, 80, 81, 82, 83, 84, 85] (by decide +kernel) (by decide +kernel)
set_option maxRecDepth 20000 in
theorem gX5_split_X5_parts : GoodIn wsX5_split (wsV RX5 321 RX5 yX5_parts wsX5_parts) := goodIn_app (goodIn_of _ (by decide +kernel)) ggX5_split_X5_parts
theorem dX5_split_0 : decode cX5_split 0 = .ok (.aload_n 0, 1) := by decide +kernel
theorem dX5_split_1 : decode cX5_split 1 = .ok (.iconst 0, 1) := by decide +kernel
theorem dX5_split_2 : decode cX5_split 2 = .ok (.putfield 1, 3) := by decide +kernel
theorem dX5_split_5 : decode cX5_split 5 = .ok (.aload_n 0, 1) := by decide +kernel
theorem dX5_split_6 : decode cX5_split 6 = .ok (.iload_n 1, 1) := by decide +kernel
theorem dX5_split_7 : decode cX5_split 7 = .ok (.iconst 1, 1) := by decide +kernel
theorem dX5_split_8 : decode cX5_split 8 = .ok (.invokevirtual 321, 3) := by decide +kernel
theorem dX5_split_11 : decode cX5_split 11 = .ok (.ireturn, 1) := by decide +kernel
set_option maxRecDepth 20000 in
theorem ggX5_twice_X5_parts : GoodIn wsX5_twice wsX5_parts := goodIn_r _ [6, 7, 8, 9, 10, 5, 11, 12, 13, 14, 15, 16, 17, 18, 19, 20, 21, 22, 23, 24, 25, 26, 27, 28, 29, 30, 31, 32, 33, 34, 35, 36, 37, 38, 39, 40, 41, 42, 43, 44, 45, 46, 47, 48, 49, 50, 51, 52, 53, 54, 55, 56, 57, 58, 59, 60, 61, 62, 63, 64, 65, 66, 67, 68, 69, 70, 71, 72, 73, 74, 75, 76, 77, 78, 79, 80, 81, 82, 83, 84, 85] (by decide +kernel) (by decide +kernel)
set_option maxRecDepth 20000 in
theorem gX5_twice_X5_parts : GoodIn wsX5_twice (wsV RX5 321 RX5 yX5_parts wsX5_parts) := goodIn_app (goodIn_of _ (by decide +kernel)) ggX5_twice_X5_parts
theorem dX5_twice_0 : decode cX5_twice 0 = .ok (.aload_n 0, 1) := by decide +kernel
theorem dX5_twice_1 : decode cX5_twice 1 = .ok (.iconst 0, 1) := by decide +kernel
theorem dX5_twice_2 : decode cX5_twice 2 = .ok (.putfield 1, 3) := by decide +kernel
theorem dX5_twice_5 : decode cX5_twice 5 = .ok (.aload_n 0, 1) := by decide +kernel
theorem dX5_twice_6 : decode cX5_twice 6 = .ok (.iload_n 1, 1) := by decide +kernel
theorem dX5_twice_7 : decode cX5_twice 7 = .ok (.iconst 2, 1) := by decide +kernel
theorem dX5_twice_8 : decode cX5_twice 8 = .ok (.invokevirtual 321, 3) := by decide +kernel
theorem dX5_twice_11 : decode cX5_twice 11 = .ok (.ireturn, 1) := by decide +kernel
set_option maxRecDepth 20000 in
theorem ggX5_drop_X5_isRoot : GoodIn wsX5_drop wsX5_isRoot := goodIn_r _ [7, 2, 8, 9, 6, 10, 40, 41, 42, 43, 44, 45, 46, 47, 48, 49, 50, 51, 52, 53, 54, 55, 56, 57, 58, 59, 60, 61, 62, 63, 64, 65, 66, 67, 68, 69, 70, 71, 72, 73, 74, 75, 76, 77, 78, 79, 80, 81] (by decide +kernel) (by decide +kernel)
set_option maxRecDepth 20000 in
theorem gX5_drop_X5_isRoot : GoodIn wsX5_drop (wsV RX5 268 RX5 yX5_isRoot wsX5_isRoot) := goodIn_app (goodIn_of _ (by decide +kernel)) ggX5_drop_X5_isRoot
set_option maxRecDepth 20000 in
theorem ggX5_drop_X5_hasRoom : GoodIn wsX5_drop wsX5_hasRoom := goodIn_r _ [14, 2, 40, 41, 42, 43, 44, 45, 46, 47, 48, 49, 50, 51, 52, 53, 54, 55, 56, 57, 58, 59, 60, 61, 62, 63, 64, 65, 66, 67, 68, 69, 70, 71, 72, 73, 74, 75, 76, 77, 78, 79, 80, 81] (by decide +kernel) (by decide +kernel)
set_option maxRecDepth 20000 in
theorem gX5_drop_X5_hasRoom : GoodIn wsX5_drop (wsV RX5 152 RX5 yX5_hasRoom wsX5_hasRoom) := goodIn_app (goodIn_of _ (by decide +kernel)) ggX5_drop_X5_hasRoom
set_option maxRecDepth 20000 in
theorem ggX5_drop_X5_keepsAhead : GoodIn wsX5_drop wsX5_keepsAhead := goodIn_r _ [18, 19, 20, 2, 21, 22, 6, 23, 40, 41, 42, 43, 44, 45, 46, 47, 48, 49, 50, 51, 52, 53, 54, 55, 56, 57, 58, 59, 60, 61, 62, 63, 64, 65, 66, 67, 68, 69, 70, 71, 72, 73, 74, 75, 76, 77, 78, 79, 80, 81] (by decide +kernel) (by decide +kernel)
set_option maxRecDepth 20000 in
theorem gX5_drop_X5_keepsAhead : GoodIn wsX5_drop (wsV RX5 299 RX5 yX5_keepsAhead wsX5_keepsAhead) := goodIn_app (goodIn_of _ (by decide +kernel)) ggX5_drop_X5_keepsAhead
set_option maxRecDepth 20000 in
theorem ggX5_drop_X5_makes : GoodIn wsX5_drop wsX5_makes := goodIn_r _ [27, 2, 40, 41, 42, 43, 44, 45, 46, 47, 48, 49, 50, 51, 52, 53, 54, 55, 56, 57, 58, 59, 60, 61, 62, 63, 64, 65, 66, 67, 68, 69, 70, 71, 72, 73, 74, 75, 76, 77, 78, 79, 80, 81] (by decide +kernel) (by decide +kernel)
set_option maxRecDepth 20000 in
theorem gX5_drop_X5_makes : GoodIn wsX5_drop (wsV RX5 155 RX5 yX5_makes wsX5_makes) := goodIn_app (goodIn_of _ (by decide +kernel)) ggX5_drop_X5_makes
set_option maxRecDepth 20000 in
theorem ggX5_drop_X5_replaces : GoodIn wsX5_drop wsX5_replaces := goodIn_r _ [31, 2, 32, 33, 34, 6, 35, 36, 37, 38, 39, 40, 41, 42, 43, 44, 45, 46, 47, 48, 49, 50, 51, 52, 53, 54, 55, 56, 57, 58, 59, 60, 61, 62, 63, 64, 65, 66, 67, 68, 69, 70, 71, 72, 73, 74, 75, 76, 77, 78, 79, 80, 81] (by decide +kernel) (by decide +kernel)
set_option maxRecDepth 20000 in
theorem gX5_drop_X5_replaces : GoodIn wsX5_drop (wsV RX5 318 RX5 yX5_replaces wsX5_replaces) := goodIn_app (goodIn_of _ (by decide +kernel)) ggX5_drop_X5_replaces
theorem dX5_drop_0 : decode cX5_drop 0 = .ok (.aload_n 0, 1) := by decide +kernel
theorem dX5_drop_1 : decode cX5_drop 1 = .ok (.iconst 0, 1) := by decide +kernel
theorem dX5_drop_2 : decode cX5_drop 2 = .ok (.putfield 1, 3) := by decide +kernel
theorem dX5_drop_5 : decode cX5_drop 5 = .ok (.aload_n 0, 1) := by decide +kernel
theorem dX5_drop_6 : decode cX5_drop 6 = .ok (.iload_n 1, 1) := by decide +kernel
theorem dX5_drop_7 : decode cX5_drop 7 = .ok (.invokevirtual 268, 3) := by decide +kernel
theorem dX5_drop_10 : decode cX5_drop 10 = .ok (.ifCond .eq 11, 3) := by decide +kernel
theorem dX5_drop_13 : decode cX5_drop 13 = .ok (.aload_n 0, 1) := by decide +kernel
theorem dX5_drop_14 : decode cX5_drop 14 = .ok (.iconst 1, 1) := by decide +kernel
theorem dX5_drop_15 : decode cX5_drop 15 = .ok (.invokevirtual 152, 3) := by decide +kernel
theorem dX5_drop_18 : decode cX5_drop 18 = .ok (.ifCond .ne 5, 3) := by decide +kernel
theorem dX5_drop_21 : decode cX5_drop 21 = .ok (.iconst (-1), 1) := by decide +kernel
theorem dX5_drop_22 : decode cX5_drop 22 = .ok (.ireturn, 1) := by decide +kernel
theorem dX5_drop_23 : decode cX5_drop 23 = .ok (.aload_n 0, 1) := by decide +kernel
theorem dX5_drop_24 : decode cX5_drop 24 = .ok (.invokevirtual 299, 3) := by decide +kernel
theorem dX5_drop_27 : decode cX5_drop 27 = .ok (.aload_n 0, 1) := by decide +kernel
theorem dX5_drop_28 : decode cX5_drop 28 = .ok (.iload_n 1, 1) := by decide +kernel
theorem dX5_drop_29 : decode cX5_drop 29 = .ok (.iconst 3, 1) := by decide +kernel
theorem dX5_drop_30 : decode cX5_drop 30 = .ok (.aload_n 0, 1) := by decide +kernel
theorem dX5_drop_31 : decode cX5_drop 31 = .ok (.iconst 0, 1) := by decide +kernel
theorem dX5_drop_32 : decode cX5_drop 32 = .ok (.invokevirtual 155, 3) := by decide +kernel
theorem dX5_drop_35 : decode cX5_drop 35 = .ok (.imul, 1) := by decide +kernel
theorem dX5_drop_36 : decode cX5_drop 36 = .ok (.invokevirtual 318, 3) := by decide +kernel
theorem dX5_drop_39 : decode cX5_drop 39 = .ok (.aload_n 0, 1) := by decide +kernel
theorem dX5_drop_40 : decode cX5_drop 40 = .ok (.getfield 7, 3) := by decide +kernel
theorem dX5_drop_43 : decode cX5_drop 43 = .ok (.iconst 1, 1) := by decide +kernel
theorem dX5_drop_44 : decode cX5_drop 44 = .ok (.iaload, 1) := by decide +kernel
theorem dX5_drop_45 : decode cX5_drop 45 = .ok (.ireturn, 1) := by decide +kernel
set_option maxRecDepth 20000 in
theorem ggX5_join_X5_isRoot : GoodIn wsX5_join wsX5_isRoot := goodIn_r _ [7, 2, 8, 9, 6, 10, 32, 33, 34, 35, 36, 37, 38, 39, 40, 41, 42, 43, 44, 45, 46, 47, 48, 49, 50, 51, 52, 53, 54, 55, 56, 57, 58, 59, 60, 61, 62, 63, 64, 65, 66, 67, 68, 69, 70, 71, 72, 73] (by decide +kernel) (by decide +kernel)
set_option maxRecDepth 20000 in
theorem gX5_join_X5_isRoot : GoodIn wsX5_join (wsV RX5 268 RX5 yX5_isRoot wsX5_isRoot) := goodIn_app (goodIn_of _ (by decide +kernel)) ggX5_join_X5_isRoot
set_option maxRecDepth 20000 in
theorem ggX5_join_X5_keepsAhead : GoodIn wsX5_join wsX5_keepsAhead := goodIn_r _ [14, 15, 16, 2, 17, 18, 6, 19, 32, 33, 34, 35, 36, 37, 38, 39, 40, 41, 42, 43, 44, 45, 46, 47, 48, 49, 50, 51, 52, 53, 54, 55, 56, 57, 58, 59, 60, 61, 62, 63, 64, 65, 66, 67, 68, 69, 70, 71, 72, 73] (by decide +kernel) (by decide +kernel)
set_option maxRecDepth 20000 in
theorem gX5_join_X5_keepsAhead : GoodIn wsX5_join (wsV RX5 299 RX5 yX5_keepsAhead wsX5_keepsAhead) := goodIn_app (goodIn_of _ (by decide +kernel)) ggX5_join_X5_keepsAhead
set_option maxRecDepth 20000 in
theorem ggX5_join_X5_linkOf : GoodIn wsX5_join wsX5_linkOf := goodIn_r _ [23, 2, 32, 33, 34, 35, 36, 37, 38, 39, 40, 41, 42, 43, 44, 45, 46, 47, 48, 49, 50, 51, 52, 53, 54, 55, 56, 57, 58, 59, 60, 61, 62, 63, 64, 65, 66, 67, 68, 69, 70, 71, 72, 73] (by decide +kernel) (by decide +kernel)
set_option maxRecDepth 20000 in
theorem gX5_join_X5_linkOf : GoodIn wsX5_join (wsV RX5 215 RX5 yX5_linkOf wsX5_linkOf) := goodIn_app (goodIn_of _ (by decide +kernel)) ggX5_join_X5_linkOf
set_option maxRecDepth 20000 in
theorem ggX5_join_X5_links : GoodIn wsX5_join wsX5_links := goodIn_r _ [27, 2, 32, 33, 34, 35, 36, 37, 38, 39, 40, 41, 42, 43, 44, 45, 46, 47, 48, 49, 50, 51, 52, 53, 54, 55, 56, 57, 58, 59, 60, 61, 62, 63, 64, 65, 66, 67, 68, 69, 70, 71, 72, 73] (by decide +kernel) (by decide +kernel)
set_option maxRecDepth 20000 in
theorem gX5_join_X5_links : GoodIn wsX5_join (wsV RX5 172 RX5 yX5_links wsX5_links) := goodIn_app (goodIn_of _ (by decide +kernel)) ggX5_join_X5_links
set_option maxRecDepth 20000 in
theorem ggX5_join_X5_roots : GoodIn wsX5_join wsX5_roots := goodIn_r _ [31, 2, 32, 33, 34, 35, 36, 37, 38, 39, 40, 41, 42, 43, 44, 45, 46, 47, 48, 49, 50, 51, 52, 53, 54, 55, 56, 57, 58, 59, 60, 61, 62, 63, 64, 65, 66, 67, 68, 69, 70, 71, 72, 73] (by decide +kernel) (by decide +kernel)
set_option maxRecDepth 20000 in
theorem gX5_join_X5_roots : GoodIn wsX5_join (wsV RX5 265 RX5 yX5_roots wsX5_roots) := goodIn_app (goodIn_of _ (by decide +kernel)) ggX5_join_X5_roots
theorem dX5_join_0 : decode cX5_join 0 = .ok (.aload_n 0, 1) := by decide +kernel
theorem dX5_join_1 : decode cX5_join 1 = .ok (.iconst 0, 1) := by decide +kernel
theorem dX5_join_2 : decode cX5_join 2 = .ok (.putfield 1, 3) := by decide +kernel
theorem dX5_join_5 : decode cX5_join 5 = .ok (.aload_n 0, 1) := by decide +kernel
theorem dX5_join_6 : decode cX5_join 6 = .ok (.iload_n 1, 1) := by decide +kernel
theorem dX5_join_7 : decode cX5_join 7 = .ok (.invokevirtual 268, 3) := by decide +kernel
theorem dX5_join_10 : decode cX5_join 10 = .ok (.ifCond .eq 16, 3) := by decide +kernel
theorem dX5_join_13 : decode cX5_join 13 = .ok (.aload_n 0, 1) := by decide +kernel
theorem dX5_join_14 : decode cX5_join 14 = .ok (.iload_n 2, 1) := by decide +kernel
theorem dX5_join_15 : decode cX5_join 15 = .ok (.invokevirtual 268, 3) := by decide +kernel
theorem dX5_join_18 : decode cX5_join 18 = .ok (.ifCond .eq 8, 3) := by decide +kernel
theorem dX5_join_21 : decode cX5_join 21 = .ok (.iload_n 1, 1) := by decide +kernel
theorem dX5_join_22 : decode cX5_join 22 = .ok (.iload_n 2, 1) := by decide +kernel
theorem dX5_join_23 : decode cX5_join 23 = .ok (.if_icmp .ne 5, 3) := by decide +kernel
theorem dX5_join_26 : decode cX5_join 26 = .ok (.iconst (-1), 1) := by decide +kernel
theorem dX5_join_27 : decode cX5_join 27 = .ok (.ireturn, 1) := by decide +kernel
theorem dX5_join_28 : decode cX5_join 28 = .ok (.aload_n 0, 1) := by decide +kernel
theorem dX5_join_29 : decode cX5_join 29 = .ok (.invokevirtual 299, 3) := by decide +kernel
theorem dX5_join_32 : decode cX5_join 32 = .ok (.aload_n 0, 1) := by decide +kernel
theorem dX5_join_33 : decode cX5_join 33 = .ok (.sipush 1000, 3) := by decide +kernel
theorem dX5_join_36 : decode cX5_join 36 = .ok (.iload_n 1, 1) := by decide +kernel
theorem dX5_join_37 : decode cX5_join 37 = .ok (.iadd, 1) := by decide +kernel
theorem dX5_join_38 : decode cX5_join 38 = .ok (.invokevirtual 215, 3) := by decide +kernel
theorem dX5_join_41 : decode cX5_join 41 = .ok (.istore_n 3, 1) := by decide +kernel
theorem dX5_join_42 : decode cX5_join 42 = .ok (.aload_n 0, 1) := by decide +kernel
theorem dX5_join_43 : decode cX5_join 43 = .ok (.sipush 1000, 3) := by decide +kernel
theorem dX5_join_46 : decode cX5_join 46 = .ok (.iload_n 2, 1) := by decide +kernel
theorem dX5_join_47 : decode cX5_join 47 = .ok (.iadd, 1) := by decide +kernel
theorem dX5_join_48 : decode cX5_join 48 = .ok (.invokevirtual 215, 3) := by decide +kernel
theorem dX5_join_51 : decode cX5_join 51 = .ok (.istore 4, 2) := by decide +kernel
theorem dX5_join_53 : decode cX5_join 53 = .ok (.aload_n 0, 1) := by decide +kernel
theorem dX5_join_54 : decode cX5_join 54 = .ok (.getfield 7, 3) := by decide +kernel
theorem dX5_join_57 : decode cX5_join 57 = .ok (.bipush 14, 2) := by decide +kernel
theorem dX5_join_59 : decode cX5_join 59 = .ok (.iload_n 1, 1) := by decide +kernel
theorem dX5_join_60 : decode cX5_join 60 = .ok (.iadd, 1) := by decide +kernel
theorem dX5_join_61 : decode cX5_join 61 = .ok (.iconst 0, 1) := by decide +kernel
theorem dX5_join_62 : decode cX5_join 62 = .ok (.iastore, 1) := by decide +kernel
theorem dX5_join_63 : decode cX5_join 63 = .ok (.aload_n 0, 1) := by decide +kernel
theorem dX5_join_64 : decode cX5_join 64 = .ok (.getfield 7, 3) := by decide +kernel
theorem dX5_join_67 : decode cX5_join 67 = .ok (.bipush 14, 2) := by decide +kernel
theorem dX5_join_69 : decode cX5_join 69 = .ok (.iload_n 2, 1) := by decide +kernel
theorem dX5_join_70 : decode cX5_join 70 = .ok (.iadd, 1) := by decide +kernel
theorem dX5_join_71 : decode cX5_join 71 = .ok (.iconst 0, 1) := by decide +kernel
theorem dX5_join_72 : decode cX5_join 72 = .ok (.iastore, 1) := by decide +kernel
theorem dX5_join_73 : decode cX5_join 73 = .ok (.iload_n 3, 1) := by decide +kernel
theorem dX5_join_74 : decode cX5_join 74 = .ok (.sipush 1000, 3) := by decide +kernel
theorem dX5_join_77 : decode cX5_join 77 = .ok (.iload_n 2, 1) := by decide +kernel
theorem dX5_join_78 : decode cX5_join 78 = .ok (.iadd, 1) := by decide +kernel
theorem dX5_join_79 : decode cX5_join 79 = .ok (.if_icmp .ne 17, 3) := by decide +kernel
theorem dX5_join_82 : decode cX5_join 82 = .ok (.aload_n 0, 1) := by decide +kernel
theorem dX5_join_83 : decode cX5_join 83 = .ok (.getfield 7, 3) := by decide +kernel
theorem dX5_join_86 : decode cX5_join 86 = .ok (.bipush 7, 2) := by decide +kernel
theorem dX5_join_88 : decode cX5_join 88 = .ok (.dup2, 1) := by decide +kernel
theorem dX5_join_89 : decode cX5_join 89 = .ok (.iaload, 1) := by decide +kernel
theorem dX5_join_90 : decode cX5_join 90 = .ok (.iconst 1, 1) := by decide +kernel
theorem dX5_join_91 : decode cX5_join 91 = .ok (.iadd, 1) := by decide +kernel
theorem dX5_join_92 : decode cX5_join 92 = .ok (.iastore, 1) := by decide +kernel
theorem dX5_join_93 : decode cX5_join 93 = .ok (.goto 10, 3) := by decide +kernel
theorem dX5_join_96 : decode cX5_join 96 = .ok (.aload_n 0, 1) := by decide +kernel
theorem dX5_join_97 : decode cX5_join 97 = .ok (.iload_n 3, 1) := by decide +kernel
theorem dX5_join_98 : decode cX5_join 98 = .ok (.iload 4, 2) := by decide +kernel
theorem dX5_join_100 : decode cX5_join 100 = .ok (.invokevirtual 172, 3) := by decide +kernel
theorem dX5_join_103 : decode cX5_join 103 = .ok (.aload_n 0, 1) := by decide +kernel
theorem dX5_join_104 : decode cX5_join 104 = .ok (.invokevirtual 265, 3) := by decide +kernel
theorem dX5_join_107 : decode cX5_join 107 = .ok (.ireturn, 1) := by decide +kernel
set_option maxRecDepth 20000 in
theorem ggX5_undo_X5_copies : GoodIn wsX5_undo wsX5_copies := goodIn_r _ [8] (by decide +kernel) (by decide +kernel)
set_option maxRecDepth 20000 in
theorem gX5_undo_X5_copies : GoodIn wsX5_undo (va_wsS RX5 196 yX5_copies wsX5_copies) := goodIn_app (goodIn_of _ (by decide +kernel)) ggX5_undo_X5_copies
theorem dX5_undo_0 : decode cX5_undo 0 = .ok (.aload_n 0, 1) := by decide +kernel
theorem dX5_undo_1 : decode cX5_undo 1 = .ok (.iconst 0, 1) := by decide +kernel
theorem dX5_undo_2 : decode cX5_undo 2 = .ok (.putfield 1, 3) := by decide +kernel
theorem dX5_undo_5 : decode cX5_undo 5 = .ok (.aload_n 0, 1) := by decide +kernel
theorem dX5_undo_6 : decode cX5_undo 6 = .ok (.getfield 212, 3) := by decide +kernel
theorem dX5_undo_9 : decode cX5_undo 9 = .ok (.ifCond .ne 5, 3) := by decide +kernel
theorem dX5_undo_12 : decode cX5_undo 12 = .ok (.iconst (-1), 1) := by decide +kernel
theorem dX5_undo_13 : decode cX5_undo 13 = .ok (.ireturn, 1) := by decide +kernel
theorem dX5_undo_14 : decode cX5_undo 14 = .ok (.aload_n 0, 1) := by decide +kernel
theorem dX5_undo_15 : decode cX5_undo 15 = .ok (.dup, 1) := by decide +kernel
theorem dX5_undo_16 : decode cX5_undo 16 = .ok (.getfield 212, 3) := by decide +kernel
theorem dX5_undo_19 : decode cX5_undo 19 = .ok (.iconst 1, 1) := by decide +kernel
theorem dX5_undo_20 : decode cX5_undo 20 = .ok (.isub, 1) := by decide +kernel
theorem dX5_undo_21 : decode cX5_undo 21 = .ok (.putfield 212, 3) := by decide +kernel
theorem dX5_undo_24 : decode cX5_undo 24 = .ok (.aload_n 0, 1) := by decide +kernel
theorem dX5_undo_25 : decode cX5_undo 25 = .ok (.getfield 73, 3) := by decide +kernel
theorem dX5_undo_28 : decode cX5_undo 28 = .ok (.sipush 1646, 3) := by decide +kernel
theorem dX5_undo_31 : decode cX5_undo 31 = .ok (.aload_n 0, 1) := by decide +kernel
theorem dX5_undo_32 : decode cX5_undo 32 = .ok (.getfield 212, 3) := by decide +kernel
theorem dX5_undo_35 : decode cX5_undo 35 = .ok (.imul, 1) := by decide +kernel
theorem dX5_undo_36 : decode cX5_undo 36 = .ok (.aload_n 0, 1) := by decide +kernel
theorem dX5_undo_37 : decode cX5_undo 37 = .ok (.getfield 7, 3) := by decide +kernel
theorem dX5_undo_40 : decode cX5_undo 40 = .ok (.iconst 0, 1) := by decide +kernel
theorem dX5_undo_41 : decode cX5_undo 41 = .ok (.invokestatic 196, 3) := by decide +kernel
theorem dX5_undo_44 : decode cX5_undo 44 = .ok (.aload_n 0, 1) := by decide +kernel
theorem dX5_undo_45 : decode cX5_undo 45 = .ok (.getfield 212, 3) := by decide +kernel
theorem dX5_undo_48 : decode cX5_undo 48 = .ok (.ireturn, 1) := by decide +kernel
set_option maxRecDepth 20000 in
theorem ggX5_image_X5_within : GoodIn wsX5_image wsX5_within := goodIn_r _ [9] (by decide +kernel) (by decide +kernel)
set_option maxRecDepth 20000 in
theorem gX5_image_X5_within : GoodIn wsX5_image (va_wsS RX5 89 yX5_within wsX5_within) := goodIn_app (goodIn_of _ (by decide +kernel)) ggX5_image_X5_within
set_option maxRecDepth 20000 in
theorem ggX5_image_X5_copies : GoodIn wsX5_image wsX5_copies := goodIn_r _ [12] (by decide +kernel) (by decide +kernel)
set_option maxRecDepth 20000 in
theorem gX5_image_X5_copies : GoodIn wsX5_image (va_wsS RX5 196 yX5_copies wsX5_copies) := goodIn_app (goodIn_of _ (by decide +kernel)) ggX5_image_X5_copies
theorem dX5_image_0 : decode cX5_image 0 = .ok (.aload_n 0, 1) := by decide +kernel
theorem dX5_image_1 : decode cX5_image 1 = .ok (.iconst 0, 1) := by decide +kernel
theorem dX5_image_2 : decode cX5_image 2 = .ok (.putfield 1, 3) := by decide +kernel
theorem dX5_image_5 : decode cX5_image 5 = .ok (.iload_n 1, 1) := by decide +kernel
theorem dX5_image_6 : decode cX5_image 6 = .ok (.iconst 0, 1) := by decide +kernel
theorem dX5_image_7 : decode cX5_image 7 = .ok (.iconst 1, 1) := by decide +kernel
theorem dX5_image_8 : decode cX5_image 8 = .ok (.invokestatic 89, 3) := by decide +kernel
theorem dX5_image_11 : decode cX5_image 11 = .ok (.ifCond .eq 16, 3) := by decide +kernel
theorem dX5_image_14 : decode cX5_image 14 = .ok (.iload_n 2, 1) := by decide +kernel
theorem dX5_image_15 : decode cX5_image 15 = .ok (.ifCond .eq 14, 3) := by decide +kernel
theorem dX5_image_18 : decode cX5_image 18 = .ok (.aload_n 0, 1) := by decide +kernel
theorem dX5_image_19 : decode cX5_image 19 = .ok (.getfield 79, 3) := by decide +kernel
theorem dX5_image_22 : decode cX5_image 22 = .ok (.iload_n 1, 1) := by decide +kernel
theorem dX5_image_23 : decode cX5_image 23 = .ok (.baload, 1) := by decide +kernel
theorem dX5_image_24 : decode cX5_image 24 = .ok (.ifCond .ne 5, 3) := by decide +kernel
theorem dX5_image_27 : decode cX5_image 27 = .ok (.iconst 0, 1) := by decide +kernel
theorem dX5_image_28 : decode cX5_image 28 = .ok (.ireturn, 1) := by decide +kernel
theorem dX5_image_29 : decode cX5_image 29 = .ok (.iload_n 2, 1) := by decide +kernel
theorem dX5_image_30 : decode cX5_image 30 = .ok (.ifCond .eq 28, 3) := by decide +kernel
theorem dX5_image_33 : decode cX5_image 33 = .ok (.aload_n 0, 1) := by decide +kernel
theorem dX5_image_34 : decode cX5_image 34 = .ok (.getfield 82, 3) := by decide +kernel
theorem dX5_image_37 : decode cX5_image 37 = .ok (.sipush 1646, 3) := by decide +kernel
theorem dX5_image_40 : decode cX5_image 40 = .ok (.iload_n 1, 1) := by decide +kernel
theorem dX5_image_41 : decode cX5_image 41 = .ok (.imul, 1) := by decide +kernel
theorem dX5_image_42 : decode cX5_image 42 = .ok (.aload_n 0, 1) := by decide +kernel
theorem dX5_image_43 : decode cX5_image 43 = .ok (.getfield 7, 3) := by decide +kernel
theorem dX5_image_46 : decode cX5_image 46 = .ok (.iconst 0, 1) := by decide +kernel
theorem dX5_image_47 : decode cX5_image 47 = .ok (.invokestatic 196, 3) := by decide +kernel
theorem dX5_image_50 : decode cX5_image 50 = .ok (.aload_n 0, 1) := by decide +kernel
theorem dX5_image_51 : decode cX5_image 51 = .ok (.iconst 0, 1) := by decide +kernel
theorem dX5_image_52 : decode cX5_image 52 = .ok (.putfield 212, 3) := by decide +kernel
theorem dX5_image_55 : decode cX5_image 55 = .ok (.goto 27, 3) := by decide +kernel
theorem dX5_image_58 : decode cX5_image 58 = .ok (.aload_n 0, 1) := by decide +kernel
theorem dX5_image_59 : decode cX5_image 59 = .ok (.getfield 7, 3) := by decide +kernel
theorem dX5_image_62 : decode cX5_image 62 = .ok (.iconst 0, 1) := by decide +kernel
theorem dX5_image_63 : decode cX5_image 63 = .ok (.aload_n 0, 1) := by decide +kernel
theorem dX5_image_64 : decode cX5_image 64 = .ok (.getfield 82, 3) := by decide +kernel
theorem dX5_image_67 : decode cX5_image 67 = .ok (.sipush 1646, 3) := by decide +kernel
theorem dX5_image_70 : decode cX5_image 70 = .ok (.iload_n 1, 1) := by decide +kernel
theorem dX5_image_71 : decode cX5_image 71 = .ok (.imul, 1) := by decide +kernel
theorem dX5_image_72 : decode cX5_image 72 = .ok (.invokestatic 196, 3) := by decide +kernel
theorem dX5_image_75 : decode cX5_image 75 = .ok (.aload_n 0, 1) := by decide +kernel
theorem dX5_image_76 : decode cX5_image 76 = .ok (.getfield 79, 3) := by decide +kernel
theorem dX5_image_79 : decode cX5_image 79 = .ok (.iload_n 1, 1) := by decide +kernel
theorem dX5_image_80 : decode cX5_image 80 = .ok (.iconst 1, 1) := by decide +kernel
theorem dX5_image_81 : decode cX5_image 81 = .ok (.bastore, 1) := by decide +kernel
theorem dX5_image_82 : decode cX5_image 82 = .ok (.iconst 1, 1) := by decide +kernel
theorem dX5_image_83 : decode cX5_image 83 = .ok (.ireturn, 1) := by decide +kernel
