theorem dX2_init_0 : decode cX2_init 0 = .ok (.aload_n 0, 1) := by decide +kernel
theorem dX2_init_1 : decode cX2_init 1 = .ok (.invokespecial 3, 3) := by decide +kernel
theorem dX2_init_4 : decode cX2_init 4 = .ok (.aload_n 0, 1) := by decide +kernel
theorem dX2_init_5 : decode cX2_init 5 = .ok (.sipush 300, 3) := by decide +kernel
theorem dX2_init_8 : decode cX2_init 8 = .ok (.newarray .int, 2) := by decide +kernel
theorem dX2_init_10 : decode cX2_init 10 = .ok (.putfield 9, 3) := by decide +kernel
theorem dX2_init_13 : decode cX2_init 13 = .ok (.aload_n 0, 1) := by decide +kernel
theorem dX2_init_14 : decode cX2_init 14 = .ok (.sipush 300, 3) := by decide +kernel
theorem dX2_init_17 : decode cX2_init 17 = .ok (.newarray .int, 2) := by decide +kernel
theorem dX2_init_19 : decode cX2_init 19 = .ok (.putfield 15, 3) := by decide +kernel
theorem dX2_init_22 : decode cX2_init 22 = .ok (.aload_n 0, 1) := by decide +kernel
theorem dX2_init_23 : decode cX2_init 23 = .ok (.sipush 300, 3) := by decide +kernel
theorem dX2_init_26 : decode cX2_init 26 = .ok (.newarray .int, 2) := by decide +kernel
theorem dX2_init_28 : decode cX2_init 28 = .ok (.putfield 18, 3) := by decide +kernel
theorem dX2_init_31 : decode cX2_init 31 = .ok (.aload_n 0, 1) := by decide +kernel
theorem dX2_init_32 : decode cX2_init 32 = .ok (.sipush 632, 3) := by decide +kernel
theorem dX2_init_35 : decode cX2_init 35 = .ok (.newarray .int, 2) := by decide +kernel
theorem dX2_init_37 : decode cX2_init 37 = .ok (.putfield 21, 3) := by decide +kernel
theorem dX2_init_40 : decode cX2_init 40 = .ok (.aload_n 0, 1) := by decide +kernel
theorem dX2_init_41 : decode cX2_init 41 = .ok (.sipush 601, 3) := by decide +kernel
theorem dX2_init_44 : decode cX2_init 44 = .ok (.newarray .int, 2) := by decide +kernel
theorem dX2_init_46 : decode cX2_init 46 = .ok (.putfield 24, 3) := by decide +kernel
theorem dX2_init_49 : decode cX2_init 49 = .ok (.return_, 1) := by decide +kernel
set_option maxRecDepth 20000 in
theorem ggX2_look_J7_fill_53178 : GoodIn wsX2_look wsJ7_fill_53178 := goodIn_r _ [7] (by decide +kernel) (by decide +kernel)
set_option maxRecDepth 20000 in
theorem gX2_look_J7_fill_53178 : GoodIn wsX2_look (va_wsS RX2 27 yJ7_fill_53178 wsJ7_fill_53178) := goodIn_app (goodIn_of _ (by decide +kernel)) ggX2_look_J7_fill_53178
set_option maxRecDepth 20000 in
theorem ggX2_look_X0_hasRoot : GoodIn wsX2_look wsX0_hasRoot := goodIn_r _ [12, 13, 61, 62, 63, 64, 65, 66, 67, 68, 69, 70, 71, 72, 73, 74, 75] (by decide +kernel) (by decide +kernel)
set_option maxRecDepth 20000 in
theorem gX2_look_X0_hasRoot : GoodIn wsX2_look (wsV RX2 40 RX0 yX0_hasRoot wsX0_hasRoot) := goodIn_app (goodIn_of _ (by decide +kernel)) ggX2_look_X0_hasRoot
set_option maxRecDepth 20000 in
theorem ggX2_look_X2_tell : GoodIn wsX2_look wsX2_tell := goodIn_r _ [18, 3, 19, 53, 54, 55, 56, 57, 58, 59, 60] (by decide +kernel) (by decide +kernel)
set_option maxRecDepth 20000 in
theorem gX2_look_X2_tell : GoodIn wsX2_look (wsV RX2 46 RX2 yX2_tell wsX2_tell) := goodIn_app (goodIn_of _ (by decide +kernel)) ggX2_look_X2_tell
set_option maxRecDepth 20000 in
theorem ggX2_look_X2_lookFrom : GoodIn wsX2_look wsX2_lookFrom := goodIn_r _ [23, 24, 25, 26, 27, 28, 17, 29, 30, 31, 32, 11, 33, 13, 34, 35, 36, 37, 1, 38, 39, 40, 41, 42, 14, 15, 16, 18, 3, 19, 43, 44, 45, 46, 2, 47, 48, 49, 50, 51, 52, 53, 54, 55, 56, 57, 58, 59, 60, 61, 62, 63, 64, 65, 66, 67, 68, 69, 70, 71, 72, 73, 74, 75] (by decide +kernel) (by decide +kernel)
set_option maxRecDepth 20000 in
theorem gX2_look_X2_lookFrom : GoodIn wsX2_look (wsV RX2 50 RX2 yX2_lookFrom wsX2_lookFrom) := goodIn_app (goodIn_of _ (by decide +kernel)) ggX2_look_X2_lookFrom
theorem dX2_look_0 : decode cX2_look 0 = .ok (.aload_n 0, 1) := by decide +kernel
theorem dX2_look_1 : decode cX2_look 1 = .ok (.getfield 18, 3) := by decide +kernel
theorem dX2_look_4 : decode cX2_look 4 = .ok (.iconst (-1), 1) := by decide +kernel
theorem dX2_look_5 : decode cX2_look 5 = .ok (.invokestatic 27, 3) := by decide +kernel
theorem dX2_look_8 : decode cX2_look 8 = .ok (.aload_n 0, 1) := by decide +kernel
theorem dX2_look_9 : decode cX2_look 9 = .ok (.iconst 0, 1) := by decide +kernel
theorem dX2_look_10 : decode cX2_look 10 = .ok (.putfield 33, 3) := by decide +kernel
theorem dX2_look_13 : decode cX2_look 13 = .ok (.aload_n 0, 1) := by decide +kernel
theorem dX2_look_14 : decode cX2_look 14 = .ok (.iconst 0, 1) := by decide +kernel
theorem dX2_look_15 : decode cX2_look 15 = .ok (.putfield 37, 3) := by decide +kernel
theorem dX2_look_18 : decode cX2_look 18 = .ok (.iconst 0, 1) := by decide +kernel
theorem dX2_look_19 : decode cX2_look 19 = .ok (.istore_n 2, 1) := by decide +kernel
theorem dX2_look_20 : decode cX2_look 20 = .ok (.iload_n 2, 1) := by decide +kernel
theorem dX2_look_21 : decode cX2_look 21 = .ok (.bipush 16, 2) := by decide +kernel
theorem dX2_look_23 : decode cX2_look 23 = .ok (.if_icmp .ge 36, 3) := by decide +kernel
theorem dX2_look_26 : decode cX2_look 26 = .ok (.aload_n 1, 1) := by decide +kernel
theorem dX2_look_27 : decode cX2_look 27 = .ok (.iload_n 2, 1) := by decide +kernel
theorem dX2_look_28 : decode cX2_look 28 = .ok (.invokevirtual 40, 3) := by decide +kernel
theorem dX2_look_31 : decode cX2_look 31 = .ok (.ifCond .eq 22, 3) := by decide +kernel
theorem dX2_look_34 : decode cX2_look 34 = .ok (.aload_n 0, 1) := by decide +kernel
theorem dX2_look_35 : decode cX2_look 35 = .ok (.sipush 2000, 3) := by decide +kernel
theorem dX2_look_38 : decode cX2_look 38 = .ok (.iload_n 2, 1) := by decide +kernel
theorem dX2_look_39 : decode cX2_look 39 = .ok (.iadd, 1) := by decide +kernel
theorem dX2_look_40 : decode cX2_look 40 = .ok (.invokevirtual 46, 3) := by decide +kernel
theorem dX2_look_43 : decode cX2_look 43 = .ok (.aload_n 0, 1) := by decide +kernel
theorem dX2_look_44 : decode cX2_look 44 = .ok (.aload_n 1, 1) := by decide +kernel
theorem dX2_look_45 : decode cX2_look 45 = .ok (.sipush 1000, 3) := by decide +kernel
theorem dX2_look_48 : decode cX2_look 48 = .ok (.iload_n 2, 1) := by decide +kernel
theorem dX2_look_49 : decode cX2_look 49 = .ok (.iadd, 1) := by decide +kernel
theorem dX2_look_50 : decode cX2_look 50 = .ok (.invokevirtual 50, 3) := by decide +kernel
theorem dX2_look_53 : decode cX2_look 53 = .ok (.iinc 2 1, 3) := by decide +kernel
theorem dX2_look_56 : decode cX2_look 56 = .ok (.goto (-36), 3) := by decide +kernel
theorem dX2_look_59 : decode cX2_look 59 = .ok (.return_, 1) := by decide +kernel
theorem dX2_isLike_0 : decode cX2_isLike 0 = .ok (.aload_n 0, 1) := by decide +kernel
theorem dX2_isLike_1 : decode cX2_isLike 1 = .ok (.getfield 37, 3) := by decide +kernel
theorem dX2_isLike_4 : decode cX2_isLike 4 = .ok (.aload_n 1, 1) := by decide +kernel
theorem dX2_isLike_5 : decode cX2_isLike 5 = .ok (.getfield 37, 3) := by decide +kernel
theorem dX2_isLike_8 : decode cX2_isLike 8 = .ok (.if_icmp .eq 5, 3) := by decide +kernel
theorem dX2_isLike_11 : decode cX2_isLike 11 = .ok (.iconst 0, 1) := by decide +kernel
theorem dX2_isLike_12 : decode cX2_isLike 12 = .ok (.ireturn, 1) := by decide +kernel
theorem dX2_isLike_13 : decode cX2_isLike 13 = .ok (.iconst 0, 1) := by decide +kernel
theorem dX2_isLike_14 : decode cX2_isLike 14 = .ok (.istore_n 2, 1) := by decide +kernel
theorem dX2_isLike_15 : decode cX2_isLike 15 = .ok (.iload_n 2, 1) := by decide +kernel
theorem dX2_isLike_16 : decode cX2_isLike 16 = .ok (.aload_n 0, 1) := by decide +kernel
theorem dX2_isLike_17 : decode cX2_isLike 17 = .ok (.getfield 37, 3) := by decide +kernel
theorem dX2_isLike_20 : decode cX2_isLike 20 = .ok (.if_icmp .ge 26, 3) := by decide +kernel
theorem dX2_isLike_23 : decode cX2_isLike 23 = .ok (.aload_n 0, 1) := by decide +kernel
theorem dX2_isLike_24 : decode cX2_isLike 24 = .ok (.getfield 21, 3) := by decide +kernel
theorem dX2_isLike_27 : decode cX2_isLike 27 = .ok (.iload_n 2, 1) := by decide +kernel
theorem dX2_isLike_28 : decode cX2_isLike 28 = .ok (.iaload, 1) := by decide +kernel
theorem dX2_isLike_29 : decode cX2_isLike 29 = .ok (.aload_n 1, 1) := by decide +kernel
theorem dX2_isLike_30 : decode cX2_isLike 30 = .ok (.getfield 21, 3) := by decide +kernel
theorem dX2_isLike_33 : decode cX2_isLike 33 = .ok (.iload_n 2, 1) := by decide +kernel
theorem dX2_isLike_34 : decode cX2_isLike 34 = .ok (.iaload, 1) := by decide +kernel
theorem dX2_isLike_35 : decode cX2_isLike 35 = .ok (.if_icmp .eq 5, 3) := by decide +kernel
theorem dX2_isLike_38 : decode cX2_isLike 38 = .ok (.iconst 0, 1) := by decide +kernel
theorem dX2_isLike_39 : decode cX2_isLike 39 = .ok (.ireturn, 1) := by decide +kernel
theorem dX2_isLike_40 : decode cX2_isLike 40 = .ok (.iinc 2 1, 3) := by decide +kernel
theorem dX2_isLike_43 : decode cX2_isLike 43 = .ok (.goto (-28), 3) := by decide +kernel
theorem dX2_isLike_46 : decode cX2_isLike 46 = .ok (.iconst 1, 1) := by decide +kernel
theorem dX2_isLike_47 : decode cX2_isLike 47 = .ok (.ireturn, 1) := by decide +kernel
set_option maxRecDepth 20000 in
theorem ggX2_lookFrom_X2_leaveOpen : GoodIn wsX2_lookFrom wsX2_leaveOpen := goodIn_r _ [7, 1, 2, 41, 42, 43, 44, 45, 46, 47, 48] (by decide +kernel) (by decide +kernel)
set_option maxRecDepth 20000 in
theorem gX2_lookFrom_X2_leaveOpen : GoodIn wsX2_lookFrom (wsV RX2 57 RX2 yX2_leaveOpen wsX2_leaveOpen) := goodIn_app (goodIn_of _ (by decide +kernel)) ggX2_lookFrom_X2_leaveOpen
set_option maxRecDepth 20000 in
theorem ggX2_lookFrom_X0_at : GoodIn wsX2_lookFrom wsX0_at := goodIn_r _ [12, 13, 49, 50, 51, 52, 53, 54, 55, 56, 57, 58, 59, 60, 61, 62, 63] (by decide +kernel) (by decide +kernel)
set_option maxRecDepth 20000 in
theorem gX2_lookFrom_X0_at : GoodIn wsX2_lookFrom (wsV RX2 60 RX0 yX0_at wsX0_at) := goodIn_app (goodIn_of _ (by decide +kernel)) ggX2_lookFrom_X0_at
set_option maxRecDepth 20000 in
theorem ggX2_lookFrom_X2_come : GoodIn wsX2_lookFrom wsX2_come := goodIn_r _ [17, 18, 19, 20, 21, 11, 22, 23, 24, 25, 26, 6, 27, 28, 29, 30, 31, 32, 33, 34, 35, 36, 37, 38, 39, 40, 3, 4, 5, 7, 1, 2, 41, 42, 43, 44, 45, 46, 47, 48, 49, 50, 51, 52, 53, 54, 55, 56, 57, 58, 59, 60, 61, 62, 63] (by decide +kernel) (by decide +kernel)
set_option maxRecDepth 20000 in
theorem gX2_lookFrom_X2_come : GoodIn wsX2_lookFrom (wsV RX2 64 RX2 yX2_come wsX2_come) := goodIn_app (goodIn_of _ (by decide +kernel)) ggX2_lookFrom_X2_come
theorem dX2_lookFrom_0 : decode cX2_lookFrom 0 = .ok (.aload_n 0, 1) := by decide +kernel
theorem dX2_lookFrom_1 : decode cX2_lookFrom 1 = .ok (.iconst 0, 1) := by decide +kernel
theorem dX2_lookFrom_2 : decode cX2_lookFrom 2 = .ok (.putfield 54, 3) := by decide +kernel
theorem dX2_lookFrom_5 : decode cX2_lookFrom 5 = .ok (.aload_n 0, 1) := by decide +kernel
theorem dX2_lookFrom_6 : decode cX2_lookFrom 6 = .ok (.iload_n 2, 1) := by decide +kernel
theorem dX2_lookFrom_7 : decode cX2_lookFrom 7 = .ok (.invokevirtual 57, 3) := by decide +kernel
theorem dX2_lookFrom_10 : decode cX2_lookFrom 10 = .ok (.iconst 0, 1) := by decide +kernel
theorem dX2_lookFrom_11 : decode cX2_lookFrom 11 = .ok (.istore_n 3, 1) := by decide +kernel
theorem dX2_lookFrom_12 : decode cX2_lookFrom 12 = .ok (.iload_n 3, 1) := by decide +kernel
theorem dX2_lookFrom_13 : decode cX2_lookFrom 13 = .ok (.sipush 632, 3) := by decide +kernel
theorem dX2_lookFrom_16 : decode cX2_lookFrom 16 = .ok (.if_icmp .ge 44, 3) := by decide +kernel
theorem dX2_lookFrom_19 : decode cX2_lookFrom 19 = .ok (.aload_n 0, 1) := by decide +kernel
theorem dX2_lookFrom_20 : decode cX2_lookFrom 20 = .ok (.getfield 54, 3) := by decide +kernel
theorem dX2_lookFrom_23 : decode cX2_lookFrom 23 = .ok (.ifCond .le 37, 3) := by decide +kernel
theorem dX2_lookFrom_26 : decode cX2_lookFrom 26 = .ok (.aload_n 0, 1) := by decide +kernel
theorem dX2_lookFrom_27 : decode cX2_lookFrom 27 = .ok (.dup, 1) := by decide +kernel
theorem dX2_lookFrom_28 : decode cX2_lookFrom 28 = .ok (.getfield 54, 3) := by decide +kernel
theorem dX2_lookFrom_31 : decode cX2_lookFrom 31 = .ok (.iconst 1, 1) := by decide +kernel
theorem dX2_lookFrom_32 : decode cX2_lookFrom 32 = .ok (.isub, 1) := by decide +kernel
theorem dX2_lookFrom_33 : decode cX2_lookFrom 33 = .ok (.putfield 54, 3) := by decide +kernel
theorem dX2_lookFrom_36 : decode cX2_lookFrom 36 = .ok (.aload_n 0, 1) := by decide +kernel
theorem dX2_lookFrom_37 : decode cX2_lookFrom 37 = .ok (.aload_n 1, 1) := by decide +kernel
theorem dX2_lookFrom_38 : decode cX2_lookFrom 38 = .ok (.aload_n 1, 1) := by decide +kernel
theorem dX2_lookFrom_39 : decode cX2_lookFrom 39 = .ok (.aload_n 0, 1) := by decide +kernel
theorem dX2_lookFrom_40 : decode cX2_lookFrom 40 = .ok (.getfield 24, 3) := by decide +kernel
theorem dX2_lookFrom_43 : decode cX2_lookFrom 43 = .ok (.aload_n 0, 1) := by decide +kernel
theorem dX2_lookFrom_44 : decode cX2_lookFrom 44 = .ok (.getfield 54, 3) := by decide +kernel
theorem dX2_lookFrom_47 : decode cX2_lookFrom 47 = .ok (.iaload, 1) := by decide +kernel
theorem dX2_lookFrom_48 : decode cX2_lookFrom 48 = .ok (.invokevirtual 60, 3) := by decide +kernel
theorem dX2_lookFrom_51 : decode cX2_lookFrom 51 = .ok (.invokevirtual 64, 3) := by decide +kernel
theorem dX2_lookFrom_54 : decode cX2_lookFrom 54 = .ok (.iinc 3 1, 3) := by decide +kernel
theorem dX2_lookFrom_57 : decode cX2_lookFrom 57 = .ok (.goto (-45), 3) := by decide +kernel
theorem dX2_lookFrom_60 : decode cX2_lookFrom 60 = .ok (.return_, 1) := by decide +kernel
set_option maxRecDepth 20000 in
theorem ggX2_come_X0_kindOf : GoodIn wsX2_come wsX0_kindOf := goodIn_r _ [6, 7, 40, 41, 42, 43, 44, 45, 46, 47, 48, 49, 50, 51, 52, 53, 54] (by decide +kernel) (by decide +kernel)
set_option maxRecDepth 20000 in
theorem gX2_come_X0_kindOf : GoodIn wsX2_come (wsV RX2 67 RX0 yX0_kindOf wsX0_kindOf) := goodIn_app (goodIn_of _ (by decide +kernel)) ggX2_come_X0_kindOf
set_option maxRecDepth 20000 in
theorem ggX2_come_X2_tell : GoodIn wsX2_come wsX2_tell := goodIn_r _ [12, 13, 14, 32, 33, 34, 35, 36, 37, 38, 39] (by decide +kernel) (by decide +kernel)
set_option maxRecDepth 20000 in
theorem gX2_come_X2_tell : GoodIn wsX2_come (wsV RX2 46 RX2 yX2_tell wsX2_tell) := goodIn_app (goodIn_of _ (by decide +kernel)) ggX2_come_X2_tell
set_option maxRecDepth 20000 in
theorem ggX2_come_X2_meet : GoodIn wsX2_come wsX2_meet := goodIn_r _ [18, 19, 1, 20, 21, 32, 33, 34, 35, 36, 37, 38, 39] (by decide +kernel) (by decide +kernel)
set_option maxRecDepth 20000 in
theorem gX2_come_X2_meet : GoodIn wsX2_come (wsV RX2 70 RX2 yX2_meet wsX2_meet) := goodIn_app (goodIn_of _ (by decide +kernel)) ggX2_come_X2_meet
set_option maxRecDepth 20000 in
theorem ggX2_come_X2_leaveOthersOpen : GoodIn wsX2_come wsX2_leaveOthersOpen := goodIn_r _ [25, 26, 27, 28, 11, 29, 30, 31, 32, 33, 34, 35, 36, 37, 38, 39] (by decide +kernel) (by decide +kernel)
set_option maxRecDepth 20000 in
theorem gX2_come_X2_leaveOthersOpen : GoodIn wsX2_come (wsV RX2 74 RX2 yX2_leaveOthersOpen wsX2_leaveOthersOpen) := goodIn_app (goodIn_of _ (by decide +kernel)) ggX2_come_X2_leaveOthersOpen
theorem dX2_come_0 : decode cX2_come 0 = .ok (.iload_n 2, 1) := by decide +kernel
theorem dX2_come_1 : decode cX2_come 1 = .ok (.iconst 3, 1) := by decide +kernel
theorem dX2_come_2 : decode cX2_come 2 = .ok (.idiv, 1) := by decide +kernel
theorem dX2_come_3 : decode cX2_come 3 = .ok (.istore_n 3, 1) := by decide +kernel
theorem dX2_come_4 : decode cX2_come 4 = .ok (.iload_n 2, 1) := by decide +kernel
theorem dX2_come_5 : decode cX2_come 5 = .ok (.ifCond .ge 7, 3) := by decide +kernel
theorem dX2_come_8 : decode cX2_come 8 = .ok (.iconst (-1), 1) := by decide +kernel
theorem dX2_come_9 : decode cX2_come 9 = .ok (.goto 8, 3) := by decide +kernel
theorem dX2_come_12 : decode cX2_come 12 = .ok (.aload_n 1, 1) := by decide +kernel
theorem dX2_come_13 : decode cX2_come 13 = .ok (.iload_n 3, 1) := by decide +kernel
theorem dX2_come_14 : decode cX2_come 14 = .ok (.invokevirtual 67, 3) := by decide +kernel
theorem dX2_come_17 : decode cX2_come 17 = .ok (.istore 4, 2) := by decide +kernel
theorem dX2_come_19 : decode cX2_come 19 = .ok (.iload 4, 2) := by decide +kernel
theorem dX2_come_21 : decode cX2_come 21 = .ok (.iconst (-1), 1) := by decide +kernel
theorem dX2_come_22 : decode cX2_come 22 = .ok (.if_icmp .ne 11, 3) := by decide +kernel
theorem dX2_come_25 : decode cX2_come 25 = .ok (.aload_n 0, 1) := by decide +kernel
theorem dX2_come_26 : decode cX2_come 26 = .ok (.iload_n 2, 1) := by decide +kernel
theorem dX2_come_27 : decode cX2_come 27 = .ok (.invokevirtual 46, 3) := by decide +kernel
theorem dX2_come_30 : decode cX2_come 30 = .ok (.goto 68, 3) := by decide +kernel
theorem dX2_come_33 : decode cX2_come 33 = .ok (.aload_n 0, 1) := by decide +kernel
theorem dX2_come_34 : decode cX2_come 34 = .ok (.getfield 18, 3) := by decide +kernel
theorem dX2_come_37 : decode cX2_come 37 = .ok (.iload_n 3, 1) := by decide +kernel
theorem dX2_come_38 : decode cX2_come 38 = .ok (.iaload, 1) := by decide +kernel
theorem dX2_come_39 : decode cX2_come 39 = .ok (.iconst (-1), 1) := by decide +kernel
theorem dX2_come_40 : decode cX2_come 40 = .ok (.if_icmp .eq 25, 3) := by decide +kernel
theorem dX2_come_43 : decode cX2_come 43 = .ok (.aload_n 0, 1) := by decide +kernel
theorem dX2_come_44 : decode cX2_come 44 = .ok (.bipush 10, 2) := by decide +kernel
theorem dX2_come_46 : decode cX2_come 46 = .ok (.iconst 3, 1) := by decide +kernel
theorem dX2_come_47 : decode cX2_come 47 = .ok (.aload_n 0, 1) := by decide +kernel
theorem dX2_come_48 : decode cX2_come 48 = .ok (.getfield 18, 3) := by decide +kernel
theorem dX2_come_51 : decode cX2_come 51 = .ok (.iload_n 3, 1) := by decide +kernel
theorem dX2_come_52 : decode cX2_come 52 = .ok (.iaload, 1) := by decide +kernel
theorem dX2_come_53 : decode cX2_come 53 = .ok (.imul, 1) := by decide +kernel
theorem dX2_come_54 : decode cX2_come 54 = .ok (.iadd, 1) := by decide +kernel
theorem dX2_come_55 : decode cX2_come 55 = .ok (.iload_n 2, 1) := by decide +kernel
theorem dX2_come_56 : decode cX2_come 56 = .ok (.iconst 3, 1) := by decide +kernel
theorem dX2_come_57 : decode cX2_come 57 = .ok (.irem, 1) := by decide +kernel
theorem dX2_come_58 : decode cX2_come 58 = .ok (.iadd, 1) := by decide +kernel
theorem dX2_come_59 : decode cX2_come 59 = .ok (.invokevirtual 46, 3) := by decide +kernel
theorem dX2_come_62 : decode cX2_come 62 = .ok (.goto 36, 3) := by decide +kernel
theorem dX2_come_65 : decode cX2_come 65 = .ok (.aload_n 0, 1) := by decide +kernel
theorem dX2_come_66 : decode cX2_come 66 = .ok (.iload_n 3, 1) := by decide +kernel
theorem dX2_come_67 : decode cX2_come 67 = .ok (.iload_n 2, 1) := by decide +kernel
theorem dX2_come_68 : decode cX2_come 68 = .ok (.iconst 3, 1) := by decide +kernel
theorem dX2_come_69 : decode cX2_come 69 = .ok (.irem, 1) := by decide +kernel
theorem dX2_come_70 : decode cX2_come 70 = .ok (.invokevirtual 70, 3) := by decide +kernel
theorem dX2_come_73 : decode cX2_come 73 = .ok (.aload_n 0, 1) := by decide +kernel
theorem dX2_come_74 : decode cX2_come 74 = .ok (.iconst 3, 1) := by decide +kernel
theorem dX2_come_75 : decode cX2_come 75 = .ok (.iload_n 2, 1) := by decide +kernel
theorem dX2_come_76 : decode cX2_come 76 = .ok (.iconst 3, 1) := by decide +kernel
theorem dX2_come_77 : decode cX2_come 77 = .ok (.irem, 1) := by decide +kernel
theorem dX2_come_78 : decode cX2_come 78 = .ok (.imul, 1) := by decide +kernel
theorem dX2_come_79 : decode cX2_come 79 = .ok (.iload 4, 2) := by decide +kernel
theorem dX2_come_81 : decode cX2_come 81 = .ok (.iadd, 1) := by decide +kernel
theorem dX2_come_82 : decode cX2_come 82 = .ok (.invokevirtual 46, 3) := by decide +kernel
theorem dX2_come_85 : decode cX2_come 85 = .ok (.iload 4, 2) := by decide +kernel
theorem dX2_come_87 : decode cX2_come 87 = .ok (.ifCond .eq 11, 3) := by decide +kernel
theorem dX2_come_90 : decode cX2_come 90 = .ok (.aload_n 0, 1) := by decide +kernel
theorem dX2_come_91 : decode cX2_come 91 = .ok (.iload_n 3, 1) := by decide +kernel
theorem dX2_come_92 : decode cX2_come 92 = .ok (.iload_n 2, 1) := by decide +kernel
theorem dX2_come_93 : decode cX2_come 93 = .ok (.iconst 3, 1) := by decide +kernel
theorem dX2_come_94 : decode cX2_come 94 = .ok (.irem, 1) := by decide +kernel
theorem dX2_come_95 : decode cX2_come 95 = .ok (.invokevirtual 74, 3) := by decide +kernel
theorem dX2_come_98 : decode cX2_come 98 = .ok (.return_, 1) := by decide +kernel
theorem dX2_meet_0 : decode cX2_meet 0 = .ok (.aload_n 0, 1) := by decide +kernel
theorem dX2_meet_1 : decode cX2_meet 1 = .ok (.getfield 33, 3) := by decide +kernel
theorem dX2_meet_4 : decode cX2_meet 4 = .ok (.sipush 300, 3) := by decide +kernel
theorem dX2_meet_7 : decode cX2_meet 7 = .ok (.if_icmp .ge 43, 3) := by decide +kernel
theorem dX2_meet_10 : decode cX2_meet 10 = .ok (.aload_n 0, 1) := by decide +kernel
theorem dX2_meet_11 : decode cX2_meet 11 = .ok (.getfield 18, 3) := by decide +kernel
theorem dX2_meet_14 : decode cX2_meet 14 = .ok (.iload_n 1, 1) := by decide +kernel
theorem dX2_meet_15 : decode cX2_meet 15 = .ok (.aload_n 0, 1) := by decide +kernel
theorem dX2_meet_16 : decode cX2_meet 16 = .ok (.getfield 33, 3) := by decide +kernel
theorem dX2_meet_19 : decode cX2_meet 19 = .ok (.iastore, 1) := by decide +kernel
theorem dX2_meet_20 : decode cX2_meet 20 = .ok (.aload_n 0, 1) := by decide +kernel
theorem dX2_meet_21 : decode cX2_meet 21 = .ok (.getfield 9, 3) := by decide +kernel
theorem dX2_meet_24 : decode cX2_meet 24 = .ok (.aload_n 0, 1) := by decide +kernel
theorem dX2_meet_25 : decode cX2_meet 25 = .ok (.getfield 33, 3) := by decide +kernel
theorem dX2_meet_28 : decode cX2_meet 28 = .ok (.iload_n 1, 1) := by decide +kernel
theorem dX2_meet_29 : decode cX2_meet 29 = .ok (.iastore, 1) := by decide +kernel
theorem dX2_meet_30 : decode cX2_meet 30 = .ok (.aload_n 0, 1) := by decide +kernel
theorem dX2_meet_31 : decode cX2_meet 31 = .ok (.getfield 15, 3) := by decide +kernel
theorem dX2_meet_34 : decode cX2_meet 34 = .ok (.aload_n 0, 1) := by decide +kernel
theorem dX2_meet_35 : decode cX2_meet 35 = .ok (.getfield 33, 3) := by decide +kernel
theorem dX2_meet_38 : decode cX2_meet 38 = .ok (.iload_n 2, 1) := by decide +kernel
theorem dX2_meet_39 : decode cX2_meet 39 = .ok (.iastore, 1) := by decide +kernel
theorem dX2_meet_40 : decode cX2_meet 40 = .ok (.aload_n 0, 1) := by decide +kernel
theorem dX2_meet_41 : decode cX2_meet 41 = .ok (.dup, 1) := by decide +kernel
theorem dX2_meet_42 : decode cX2_meet 42 = .ok (.getfield 33, 3) := by decide +kernel
theorem dX2_meet_45 : decode cX2_meet 45 = .ok (.iconst 1, 1) := by decide +kernel
theorem dX2_meet_46 : decode cX2_meet 46 = .ok (.iadd, 1) := by decide +kernel
theorem dX2_meet_47 : decode cX2_meet 47 = .ok (.putfield 33, 3) := by decide +kernel
theorem dX2_meet_50 : decode cX2_meet 50 = .ok (.return_, 1) := by decide +kernel
set_option maxRecDepth 20000 in
theorem ggX2_leaveOthersOpen_X2_leaveOpen : GoodIn wsX2_leaveOthersOpen wsX2_leaveOpen := goodIn_r _ [5, 6, 7, 8, 9, 10, 11, 12, 13, 14, 15] (by decide +kernel) (by decide +kernel)
set_option maxRecDepth 20000 in
theorem gX2_leaveOthersOpen_X2_leaveOpen : GoodIn wsX2_leaveOthersOpen (wsV RX2 57 RX2 yX2_leaveOpen wsX2_leaveOpen) := goodIn_app (goodIn_of _ (by decide +kernel)) ggX2_leaveOthersOpen_X2_leaveOpen
theorem dX2_leaveOthersOpen_0 : decode cX2_leaveOthersOpen 0 = .ok (.iconst 2, 1) := by decide +kernel
theorem dX2_leaveOthersOpen_1 : decode cX2_leaveOthersOpen 1 = .ok (.istore_n 3, 1) := by decide +kernel
theorem dX2_leaveOthersOpen_2 : decode cX2_leaveOthersOpen 2 = .ok (.iload_n 3, 1) := by decide +kernel
theorem dX2_leaveOthersOpen_3 : decode cX2_leaveOthersOpen 3 = .ok (.ifCond .lt 23, 3) := by decide +kernel
theorem dX2_leaveOthersOpen_6 : decode cX2_leaveOthersOpen 6 = .ok (.iload_n 3, 1) := by decide +kernel
theorem dX2_leaveOthersOpen_7 : decode cX2_leaveOthersOpen 7 = .ok (.iload_n 2, 1) := by decide +kernel
theorem dX2_leaveOthersOpen_8 : decode cX2_leaveOthersOpen 8 = .ok (.if_icmp .eq 12, 3) := by decide +kernel
theorem dX2_leaveOthersOpen_11 : decode cX2_leaveOthersOpen 11 = .ok (.aload_n 0, 1) := by decide +kernel
theorem dX2_leaveOthersOpen_12 : decode cX2_leaveOthersOpen 12 = .ok (.iconst 3, 1) := by decide +kernel
theorem dX2_leaveOthersOpen_13 : decode cX2_leaveOthersOpen 13 = .ok (.iload_n 1, 1) := by decide +kernel
theorem dX2_leaveOthersOpen_14 : decode cX2_leaveOthersOpen 14 = .ok (.imul, 1) := by decide +kernel
theorem dX2_leaveOthersOpen_15 : decode cX2_leaveOthersOpen 15 = .ok (.iload_n 3, 1) := by decide +kernel
theorem dX2_leaveOthersOpen_16 : decode cX2_leaveOthersOpen 16 = .ok (.iadd, 1) := by decide +kernel
theorem dX2_leaveOthersOpen_17 : decode cX2_leaveOthersOpen 17 = .ok (.invokevirtual 57, 3) := by decide +kernel
theorem dX2_leaveOthersOpen_20 : decode cX2_leaveOthersOpen 20 = .ok (.iinc 3 (-1), 3) := by decide +kernel
theorem dX2_leaveOthersOpen_23 : decode cX2_leaveOthersOpen 23 = .ok (.goto (-21), 3) := by decide +kernel
theorem dX2_leaveOthersOpen_26 : decode cX2_leaveOthersOpen 26 = .ok (.return_, 1) := by decide +kernel
theorem dX2_leaveOpen_0 : decode cX2_leaveOpen 0 = .ok (.aload_n 0, 1) := by decide +kernel
theorem dX2_leaveOpen_1 : decode cX2_leaveOpen 1 = .ok (.getfield 54, 3) := by decide +kernel
theorem dX2_leaveOpen_4 : decode cX2_leaveOpen 4 = .ok (.sipush 601, 3) := by decide +kernel
theorem dX2_leaveOpen_7 : decode cX2_leaveOpen 7 = .ok (.if_icmp .ge 23, 3) := by decide +kernel
theorem dX2_leaveOpen_10 : decode cX2_leaveOpen 10 = .ok (.aload_n 0, 1) := by decide +kernel
theorem dX2_leaveOpen_11 : decode cX2_leaveOpen 11 = .ok (.getfield 24, 3) := by decide +kernel
theorem dX2_leaveOpen_14 : decode cX2_leaveOpen 14 = .ok (.aload_n 0, 1) := by decide +kernel
theorem dX2_leaveOpen_15 : decode cX2_leaveOpen 15 = .ok (.getfield 54, 3) := by decide +kernel
theorem dX2_leaveOpen_18 : decode cX2_leaveOpen 18 = .ok (.iload_n 1, 1) := by decide +kernel
theorem dX2_leaveOpen_19 : decode cX2_leaveOpen 19 = .ok (.iastore, 1) := by decide +kernel
theorem dX2_leaveOpen_20 : decode cX2_leaveOpen 20 = .ok (.aload_n 0, 1) := by decide +kernel
theorem dX2_leaveOpen_21 : decode cX2_leaveOpen 21 = .ok (.dup, 1) := by decide +kernel
theorem dX2_leaveOpen_22 : decode cX2_leaveOpen 22 = .ok (.getfield 54, 3) := by decide +kernel
theorem dX2_leaveOpen_25 : decode cX2_leaveOpen 25 = .ok (.iconst 1, 1) := by decide +kernel
theorem dX2_leaveOpen_26 : decode cX2_leaveOpen 26 = .ok (.iadd, 1) := by decide +kernel
theorem dX2_leaveOpen_27 : decode cX2_leaveOpen 27 = .ok (.putfield 54, 3) := by decide +kernel
theorem dX2_leaveOpen_30 : decode cX2_leaveOpen 30 = .ok (.return_, 1) := by decide +kernel
theorem dX2_tell_0 : decode cX2_tell 0 = .ok (.aload_n 0, 1) := by decide +kernel
theorem dX2_tell_1 : decode cX2_tell 1 = .ok (.getfield 37, 3) := by decide +kernel
theorem dX2_tell_4 : decode cX2_tell 4 = .ok (.sipush 632, 3) := by decide +kernel
theorem dX2_tell_7 : decode cX2_tell 7 = .ok (.if_icmp .ge 23, 3) := by decide +kernel
theorem dX2_tell_10 : decode cX2_tell 10 = .ok (.aload_n 0, 1) := by decide +kernel
theorem dX2_tell_11 : decode cX2_tell 11 = .ok (.getfield 21, 3) := by decide +kernel
theorem dX2_tell_14 : decode cX2_tell 14 = .ok (.aload_n 0, 1) := by decide +kernel
theorem dX2_tell_15 : decode cX2_tell 15 = .ok (.getfield 37, 3) := by decide +kernel
theorem dX2_tell_18 : decode cX2_tell 18 = .ok (.iload_n 1, 1) := by decide +kernel
theorem dX2_tell_19 : decode cX2_tell 19 = .ok (.iastore, 1) := by decide +kernel
theorem dX2_tell_20 : decode cX2_tell 20 = .ok (.aload_n 0, 1) := by decide +kernel
theorem dX2_tell_21 : decode cX2_tell 21 = .ok (.dup, 1) := by decide +kernel
theorem dX2_tell_22 : decode cX2_tell 22 = .ok (.getfield 37, 3) := by decide +kernel
theorem dX2_tell_25 : decode cX2_tell 25 = .ok (.iconst 1, 1) := by decide +kernel
theorem dX2_tell_26 : decode cX2_tell 26 = .ok (.iadd, 1) := by decide +kernel
theorem dX2_tell_27 : decode cX2_tell 27 = .ok (.putfield 37, 3) := by decide +kernel
theorem dX2_tell_30 : decode cX2_tell 30 = .ok (.return_, 1) := by decide +kernel
