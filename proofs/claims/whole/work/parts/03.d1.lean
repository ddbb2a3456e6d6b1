theorem dX1_init_0 : decode cX1_init 0 = .ok (.aload_n 0, 1) := by decide +kernel
theorem dX1_init_1 : decode cX1_init 1 = .ok (.invokespecial 3, 3) := by decide +kernel
theorem dX1_init_4 : decode cX1_init 4 = .ok (.aload_n 0, 1) := by decide +kernel
theorem dX1_init_5 : decode cX1_init 5 = .ok (.iconst 5, 1) := by decide +kernel
theorem dX1_init_6 : decode cX1_init 6 = .ok (.newarray .long, 2) := by decide +kernel
theorem dX1_init_8 : decode cX1_init 8 = .ok (.putfield 11, 3) := by decide +kernel
theorem dX1_init_11 : decode cX1_init 11 = .ok (.aload_n 0, 1) := by decide +kernel
theorem dX1_init_12 : decode cX1_init 12 = .ok (.iconst 5, 1) := by decide +kernel
theorem dX1_init_13 : decode cX1_init 13 = .ok (.newarray .long, 2) := by decide +kernel
theorem dX1_init_15 : decode cX1_init 15 = .ok (.putfield 15, 3) := by decide +kernel
theorem dX1_init_18 : decode cX1_init 18 = .ok (.return_, 1) := by decide +kernel
set_option maxRecDepth 20000 in
theorem ggX1_clear_J7_fill_d0a16 : GoodIn wsX1_clear wsJ7_fill_d0a16 := goodIn_r _ [6] (by decide +kernel) (by decide +kernel)
set_option maxRecDepth 20000 in
theorem gX1_clear_J7_fill_d0a16 : GoodIn wsX1_clear (va_wsS RX1 18 yJ7_fill_d0a16 wsJ7_fill_d0a16) := goodIn_app (goodIn_of _ (by decide +kernel)) ggX1_clear_J7_fill_d0a16
theorem dX1_clear_0 : decode cX1_clear 0 = .ok (.aload_n 0, 1) := by decide +kernel
theorem dX1_clear_1 : decode cX1_clear 1 = .ok (.getfield 11, 3) := by decide +kernel
theorem dX1_clear_4 : decode cX1_clear 4 = .ok (.lconst 0, 1) := by decide +kernel
theorem dX1_clear_5 : decode cX1_clear 5 = .ok (.invokestatic 18, 3) := by decide +kernel
theorem dX1_clear_8 : decode cX1_clear 8 = .ok (.aload_n 0, 1) := by decide +kernel
theorem dX1_clear_9 : decode cX1_clear 9 = .ok (.getfield 15, 3) := by decide +kernel
theorem dX1_clear_12 : decode cX1_clear 12 = .ok (.lconst 0, 1) := by decide +kernel
theorem dX1_clear_13 : decode cX1_clear 13 = .ok (.invokestatic 18, 3) := by decide +kernel
theorem dX1_clear_16 : decode cX1_clear 16 = .ok (.return_, 1) := by decide +kernel
theorem dX1_become_0 : decode cX1_become 0 = .ok (.aload_n 1, 1) := by decide +kernel
theorem dX1_become_1 : decode cX1_become 1 = .ok (.getfield 11, 3) := by decide +kernel
theorem dX1_become_4 : decode cX1_become 4 = .ok (.iconst 0, 1) := by decide +kernel
theorem dX1_become_5 : decode cX1_become 5 = .ok (.aload_n 0, 1) := by decide +kernel
theorem dX1_become_6 : decode cX1_become 6 = .ok (.getfield 11, 3) := by decide +kernel
theorem dX1_become_9 : decode cX1_become 9 = .ok (.iconst 0, 1) := by decide +kernel
theorem dX1_become_10 : decode cX1_become 10 = .ok (.iconst 5, 1) := by decide +kernel
theorem dX1_become_11 : decode cX1_become 11 = .ok (.invokestatic 24, 3) := by decide +kernel
theorem dX1_become_14 : decode cX1_become 14 = .ok (.aload_n 1, 1) := by decide +kernel
theorem dX1_become_15 : decode cX1_become 15 = .ok (.getfield 15, 3) := by decide +kernel
theorem dX1_become_18 : decode cX1_become 18 = .ok (.iconst 0, 1) := by decide +kernel
theorem dX1_become_19 : decode cX1_become 19 = .ok (.aload_n 0, 1) := by decide +kernel
theorem dX1_become_20 : decode cX1_become 20 = .ok (.getfield 15, 3) := by decide +kernel
theorem dX1_become_23 : decode cX1_become 23 = .ok (.iconst 0, 1) := by decide +kernel
theorem dX1_become_24 : decode cX1_become 24 = .ok (.iconst 5, 1) := by decide +kernel
theorem dX1_become_25 : decode cX1_become 25 = .ok (.invokestatic 24, 3) := by decide +kernel
theorem dX1_become_28 : decode cX1_become 28 = .ok (.return_, 1) := by decide +kernel
theorem dX1_add_0 : decode cX1_add 0 = .ok (.iload_n 1, 1) := by decide +kernel
theorem dX1_add_1 : decode cX1_add 1 = .ok (.ifCond .lt 10, 3) := by decide +kernel
theorem dX1_add_4 : decode cX1_add 4 = .ok (.iload_n 1, 1) := by decide +kernel
theorem dX1_add_5 : decode cX1_add 5 = .ok (.sipush 300, 3) := by decide +kernel
theorem dX1_add_8 : decode cX1_add 8 = .ok (.if_icmp .lt 4, 3) := by decide +kernel
theorem dX1_add_11 : decode cX1_add 11 = .ok (.return_, 1) := by decide +kernel
theorem dX1_add_12 : decode cX1_add 12 = .ok (.lconst 1, 1) := by decide +kernel
theorem dX1_add_13 : decode cX1_add 13 = .ok (.iload_n 1, 1) := by decide +kernel
theorem dX1_add_14 : decode cX1_add 14 = .ok (.bipush 63, 2) := by decide +kernel
theorem dX1_add_16 : decode cX1_add 16 = .ok (.iand, 1) := by decide +kernel
theorem dX1_add_17 : decode cX1_add 17 = .ok (.lshl, 1) := by decide +kernel
theorem dX1_add_18 : decode cX1_add 18 = .ok (.lstore_n 3, 1) := by decide +kernel
theorem dX1_add_19 : decode cX1_add 19 = .ok (.iload_n 2, 1) := by decide +kernel
theorem dX1_add_20 : decode cX1_add 20 = .ok (.ifCond .eq 19, 3) := by decide +kernel
theorem dX1_add_23 : decode cX1_add 23 = .ok (.aload_n 0, 1) := by decide +kernel
theorem dX1_add_24 : decode cX1_add 24 = .ok (.getfield 15, 3) := by decide +kernel
theorem dX1_add_27 : decode cX1_add 27 = .ok (.iload_n 1, 1) := by decide +kernel
theorem dX1_add_28 : decode cX1_add 28 = .ok (.bipush 6, 2) := by decide +kernel
theorem dX1_add_30 : decode cX1_add 30 = .ok (.ishr, 1) := by decide +kernel
theorem dX1_add_31 : decode cX1_add 31 = .ok (.dup2, 1) := by decide +kernel
theorem dX1_add_32 : decode cX1_add 32 = .ok (.laload, 1) := by decide +kernel
theorem dX1_add_33 : decode cX1_add 33 = .ok (.lload_n 3, 1) := by decide +kernel
theorem dX1_add_34 : decode cX1_add 34 = .ok (.lor, 1) := by decide +kernel
theorem dX1_add_35 : decode cX1_add 35 = .ok (.lastore, 1) := by decide +kernel
theorem dX1_add_36 : decode cX1_add 36 = .ok (.goto 16, 3) := by decide +kernel
theorem dX1_add_39 : decode cX1_add 39 = .ok (.aload_n 0, 1) := by decide +kernel
theorem dX1_add_40 : decode cX1_add 40 = .ok (.getfield 11, 3) := by decide +kernel
theorem dX1_add_43 : decode cX1_add 43 = .ok (.iload_n 1, 1) := by decide +kernel
theorem dX1_add_44 : decode cX1_add 44 = .ok (.bipush 6, 2) := by decide +kernel
theorem dX1_add_46 : decode cX1_add 46 = .ok (.ishr, 1) := by decide +kernel
theorem dX1_add_47 : decode cX1_add 47 = .ok (.dup2, 1) := by decide +kernel
theorem dX1_add_48 : decode cX1_add 48 = .ok (.laload, 1) := by decide +kernel
theorem dX1_add_49 : decode cX1_add 49 = .ok (.lload_n 3, 1) := by decide +kernel
theorem dX1_add_50 : decode cX1_add 50 = .ok (.lor, 1) := by decide +kernel
theorem dX1_add_51 : decode cX1_add 51 = .ok (.lastore, 1) := by decide +kernel
theorem dX1_add_52 : decode cX1_add 52 = .ok (.return_, 1) := by decide +kernel
theorem dX1_remove_0 : decode cX1_remove 0 = .ok (.iload_n 1, 1) := by decide +kernel
theorem dX1_remove_1 : decode cX1_remove 1 = .ok (.ifCond .lt 10, 3) := by decide +kernel
theorem dX1_remove_4 : decode cX1_remove 4 = .ok (.iload_n 1, 1) := by decide +kernel
theorem dX1_remove_5 : decode cX1_remove 5 = .ok (.sipush 300, 3) := by decide +kernel
theorem dX1_remove_8 : decode cX1_remove 8 = .ok (.if_icmp .lt 4, 3) := by decide +kernel
theorem dX1_remove_11 : decode cX1_remove 11 = .ok (.return_, 1) := by decide +kernel
theorem dX1_remove_12 : decode cX1_remove 12 = .ok (.lconst 1, 1) := by decide +kernel
theorem dX1_remove_13 : decode cX1_remove 13 = .ok (.iload_n 1, 1) := by decide +kernel
theorem dX1_remove_14 : decode cX1_remove 14 = .ok (.bipush 63, 2) := by decide +kernel
theorem dX1_remove_16 : decode cX1_remove 16 = .ok (.iand, 1) := by decide +kernel
theorem dX1_remove_17 : decode cX1_remove 17 = .ok (.lshl, 1) := by decide +kernel
theorem dX1_remove_18 : decode cX1_remove 18 = .ok (.ldc2_w 30, 3) := by decide +kernel
theorem dX1_remove_21 : decode cX1_remove 21 = .ok (.lxor, 1) := by decide +kernel
theorem dX1_remove_22 : decode cX1_remove 22 = .ok (.lstore_n 2, 1) := by decide +kernel
theorem dX1_remove_23 : decode cX1_remove 23 = .ok (.aload_n 0, 1) := by decide +kernel
theorem dX1_remove_24 : decode cX1_remove 24 = .ok (.getfield 11, 3) := by decide +kernel
theorem dX1_remove_27 : decode cX1_remove 27 = .ok (.iload_n 1, 1) := by decide +kernel
theorem dX1_remove_28 : decode cX1_remove 28 = .ok (.bipush 6, 2) := by decide +kernel
theorem dX1_remove_30 : decode cX1_remove 30 = .ok (.ishr, 1) := by decide +kernel
theorem dX1_remove_31 : decode cX1_remove 31 = .ok (.dup2, 1) := by decide +kernel
theorem dX1_remove_32 : decode cX1_remove 32 = .ok (.laload, 1) := by decide +kernel
theorem dX1_remove_33 : decode cX1_remove 33 = .ok (.lload_n 2, 1) := by decide +kernel
theorem dX1_remove_34 : decode cX1_remove 34 = .ok (.land, 1) := by decide +kernel
theorem dX1_remove_35 : decode cX1_remove 35 = .ok (.lastore, 1) := by decide +kernel
theorem dX1_remove_36 : decode cX1_remove 36 = .ok (.aload_n 0, 1) := by decide +kernel
theorem dX1_remove_37 : decode cX1_remove 37 = .ok (.getfield 15, 3) := by decide +kernel
theorem dX1_remove_40 : decode cX1_remove 40 = .ok (.iload_n 1, 1) := by decide +kernel
theorem dX1_remove_41 : decode cX1_remove 41 = .ok (.bipush 6, 2) := by decide +kernel
theorem dX1_remove_43 : decode cX1_remove 43 = .ok (.ishr, 1) := by decide +kernel
theorem dX1_remove_44 : decode cX1_remove 44 = .ok (.dup2, 1) := by decide +kernel
theorem dX1_remove_45 : decode cX1_remove 45 = .ok (.laload, 1) := by decide +kernel
theorem dX1_remove_46 : decode cX1_remove 46 = .ok (.lload_n 2, 1) := by decide +kernel
theorem dX1_remove_47 : decode cX1_remove 47 = .ok (.land, 1) := by decide +kernel
theorem dX1_remove_48 : decode cX1_remove 48 = .ok (.lastore, 1) := by decide +kernel
theorem dX1_remove_49 : decode cX1_remove 49 = .ok (.return_, 1) := by decide +kernel
set_option maxRecDepth 20000 in
theorem ggX1_has_X1_word : GoodIn wsX1_has wsX1_word := goodIn_r _ [5, 6, 7, 8, 9] (by decide +kernel) (by decide +kernel)
set_option maxRecDepth 20000 in
theorem gX1_has_X1_word : GoodIn wsX1_has (wsV RX1 32 RX1 yX1_word wsX1_word) := goodIn_app (goodIn_of _ (by decide +kernel)) ggX1_has_X1_word
theorem dX1_has_0 : decode cX1_has 0 = .ok (.iload_n 1, 1) := by decide +kernel
theorem dX1_has_1 : decode cX1_has 1 = .ok (.ifCond .lt 35, 3) := by decide +kernel
theorem dX1_has_4 : decode cX1_has 4 = .ok (.iload_n 1, 1) := by decide +kernel
theorem dX1_has_5 : decode cX1_has 5 = .ok (.sipush 300, 3) := by decide +kernel
theorem dX1_has_8 : decode cX1_has 8 = .ok (.if_icmp .ge 28, 3) := by decide +kernel
theorem dX1_has_11 : decode cX1_has 11 = .ok (.aload_n 0, 1) := by decide +kernel
theorem dX1_has_12 : decode cX1_has 12 = .ok (.iload_n 1, 1) := by decide +kernel
theorem dX1_has_13 : decode cX1_has 13 = .ok (.bipush 6, 2) := by decide +kernel
theorem dX1_has_15 : decode cX1_has 15 = .ok (.ishr, 1) := by decide +kernel
theorem dX1_has_16 : decode cX1_has 16 = .ok (.iconst 1, 1) := by decide +kernel
theorem dX1_has_17 : decode cX1_has 17 = .ok (.invokevirtual 32, 3) := by decide +kernel
theorem dX1_has_20 : decode cX1_has 20 = .ok (.iload_n 1, 1) := by decide +kernel
theorem dX1_has_21 : decode cX1_has 21 = .ok (.bipush 63, 2) := by decide +kernel
theorem dX1_has_23 : decode cX1_has 23 = .ok (.iand, 1) := by decide +kernel
theorem dX1_has_24 : decode cX1_has 24 = .ok (.lushr, 1) := by decide +kernel
theorem dX1_has_25 : decode cX1_has 25 = .ok (.lconst 1, 1) := by decide +kernel
theorem dX1_has_26 : decode cX1_has 26 = .ok (.land, 1) := by decide +kernel
theorem dX1_has_27 : decode cX1_has 27 = .ok (.lconst 0, 1) := by decide +kernel
theorem dX1_has_28 : decode cX1_has 28 = .ok (.lcmp, 1) := by decide +kernel
theorem dX1_has_29 : decode cX1_has 29 = .ok (.ifCond .eq 7, 3) := by decide +kernel
theorem dX1_has_32 : decode cX1_has 32 = .ok (.iconst 1, 1) := by decide +kernel
theorem dX1_has_33 : decode cX1_has 33 = .ok (.goto 4, 3) := by decide +kernel
theorem dX1_has_36 : decode cX1_has 36 = .ok (.iconst 0, 1) := by decide +kernel
theorem dX1_has_37 : decode cX1_has 37 = .ok (.ireturn, 1) := by decide +kernel
set_option maxRecDepth 20000 in
theorem ggX1_size_X1_word : GoodIn wsX1_size wsX1_word := goodIn_r _ [5, 6, 7, 15, 16] (by decide +kernel) (by decide +kernel)
set_option maxRecDepth 20000 in
theorem gX1_size_X1_word : GoodIn wsX1_size (wsV RX1 32 RX1 yX1_word wsX1_word) := goodIn_app (goodIn_of _ (by decide +kernel)) ggX1_size_X1_word
set_option maxRecDepth 20000 in
theorem ggX1_size_J13_bitCount_95d88 : GoodIn wsX1_size wsJ13_bitCount_95d88 := goodIn_r _ [11, 12, 13, 14] (by decide +kernel) (by decide +kernel)
set_option maxRecDepth 20000 in
theorem gX1_size_J13_bitCount_95d88 : GoodIn wsX1_size (va_wsS RX1 36 yJ13_bitCount_95d88 wsJ13_bitCount_95d88) := goodIn_app (goodIn_of _ (by decide +kernel)) ggX1_size_J13_bitCount_95d88
theorem dX1_size_0 : decode cX1_size 0 = .ok (.iconst 0, 1) := by decide +kernel
theorem dX1_size_1 : decode cX1_size 1 = .ok (.istore_n 2, 1) := by decide +kernel
theorem dX1_size_2 : decode cX1_size 2 = .ok (.iconst 0, 1) := by decide +kernel
theorem dX1_size_3 : decode cX1_size 3 = .ok (.istore_n 3, 1) := by decide +kernel
theorem dX1_size_4 : decode cX1_size 4 = .ok (.iload_n 3, 1) := by decide +kernel
theorem dX1_size_5 : decode cX1_size 5 = .ok (.iconst 5, 1) := by decide +kernel
theorem dX1_size_6 : decode cX1_size 6 = .ok (.if_icmp .ge 21, 3) := by decide +kernel
theorem dX1_size_9 : decode cX1_size 9 = .ok (.iload_n 2, 1) := by decide +kernel
theorem dX1_size_10 : decode cX1_size 10 = .ok (.aload_n 0, 1) := by decide +kernel
theorem dX1_size_11 : decode cX1_size 11 = .ok (.iload_n 3, 1) := by decide +kernel
theorem dX1_size_12 : decode cX1_size 12 = .ok (.iload_n 1, 1) := by decide +kernel
theorem dX1_size_13 : decode cX1_size 13 = .ok (.invokevirtual 32, 3) := by decide +kernel
theorem dX1_size_16 : decode cX1_size 16 = .ok (.invokestatic 36, 3) := by decide +kernel
theorem dX1_size_19 : decode cX1_size 19 = .ok (.iadd, 1) := by decide +kernel
theorem dX1_size_20 : decode cX1_size 20 = .ok (.istore_n 2, 1) := by decide +kernel
theorem dX1_size_21 : decode cX1_size 21 = .ok (.iinc 3 1, 3) := by decide +kernel
theorem dX1_size_24 : decode cX1_size 24 = .ok (.goto (-20), 3) := by decide +kernel
theorem dX1_size_27 : decode cX1_size 27 = .ok (.iload_n 2, 1) := by decide +kernel
theorem dX1_size_28 : decode cX1_size 28 = .ok (.ireturn, 1) := by decide +kernel
set_option maxRecDepth 20000 in
theorem ggX1_at_X1_word : GoodIn wsX1_at wsX1_word := goodIn_r _ [5, 6, 7, 18, 19] (by decide +kernel) (by decide +kernel)
set_option maxRecDepth 20000 in
theorem gX1_at_X1_word : GoodIn wsX1_at (wsV RX1 32 RX1 yX1_word wsX1_word) := goodIn_app (goodIn_of _ (by decide +kernel)) ggX1_at_X1_word
set_option maxRecDepth 20000 in
theorem ggX1_at_J13_bitCount_95d88 : GoodIn wsX1_at wsJ13_bitCount_95d88 := goodIn_r _ [11, 12, 13, 14] (by decide +kernel) (by decide +kernel)
set_option maxRecDepth 20000 in
theorem gX1_at_J13_bitCount_95d88 : GoodIn wsX1_at (va_wsS RX1 36 yJ13_bitCount_95d88 wsJ13_bitCount_95d88) := goodIn_app (goodIn_of _ (by decide +kernel)) ggX1_at_J13_bitCount_95d88
set_option maxRecDepth 20000 in
theorem ggX1_at_X1_placeOfBit : GoodIn wsX1_at wsX1_placeOfBit := goodIn_r _ [17, 8, 9, 10, 11, 12, 13, 14] (by decide +kernel) (by decide +kernel)
set_option maxRecDepth 20000 in
theorem gX1_at_X1_placeOfBit : GoodIn wsX1_at (va_wsS RX1 42 yX1_placeOfBit wsX1_placeOfBit) := goodIn_app (goodIn_of _ (by decide +kernel)) ggX1_at_X1_placeOfBit
theorem dX1_at_0 : decode cX1_at 0 = .ok (.iload_n 1, 1) := by decide +kernel
theorem dX1_at_1 : decode cX1_at 1 = .ok (.istore_n 3, 1) := by decide +kernel
theorem dX1_at_2 : decode cX1_at 2 = .ok (.iconst 0, 1) := by decide +kernel
theorem dX1_at_3 : decode cX1_at 3 = .ok (.istore 4, 2) := by decide +kernel
theorem dX1_at_5 : decode cX1_at 5 = .ok (.iload 4, 2) := by decide +kernel
theorem dX1_at_7 : decode cX1_at 7 = .ok (.iconst 5, 1) := by decide +kernel
theorem dX1_at_8 : decode cX1_at 8 = .ok (.if_icmp .ge 53, 3) := by decide +kernel
theorem dX1_at_11 : decode cX1_at 11 = .ok (.iload_n 3, 1) := by decide +kernel
theorem dX1_at_12 : decode cX1_at 12 = .ok (.ifCond .lt 49, 3) := by decide +kernel
theorem dX1_at_15 : decode cX1_at 15 = .ok (.aload_n 0, 1) := by decide +kernel
theorem dX1_at_16 : decode cX1_at 16 = .ok (.iload 4, 2) := by decide +kernel
theorem dX1_at_18 : decode cX1_at 18 = .ok (.iload_n 2, 1) := by decide +kernel
theorem dX1_at_19 : decode cX1_at 19 = .ok (.invokevirtual 32, 3) := by decide +kernel
theorem dX1_at_22 : decode cX1_at 22 = .ok (.lstore 5, 2) := by decide +kernel
theorem dX1_at_24 : decode cX1_at 24 = .ok (.lload 5, 2) := by decide +kernel
theorem dX1_at_26 : decode cX1_at 26 = .ok (.invokestatic 36, 3) := by decide +kernel
theorem dX1_at_29 : decode cX1_at 29 = .ok (.istore 7, 2) := by decide +kernel
theorem dX1_at_31 : decode cX1_at 31 = .ok (.iload_n 3, 1) := by decide +kernel
theorem dX1_at_32 : decode cX1_at 32 = .ok (.iload 7, 2) := by decide +kernel
theorem dX1_at_34 : decode cX1_at 34 = .ok (.if_icmp .ge 16, 3) := by decide +kernel
theorem dX1_at_37 : decode cX1_at 37 = .ok (.bipush 64, 2) := by decide +kernel
theorem dX1_at_39 : decode cX1_at 39 = .ok (.iload 4, 2) := by decide +kernel
theorem dX1_at_41 : decode cX1_at 41 = .ok (.imul, 1) := by decide +kernel
theorem dX1_at_42 : decode cX1_at 42 = .ok (.lload 5, 2) := by decide +kernel
theorem dX1_at_44 : decode cX1_at 44 = .ok (.iload_n 3, 1) := by decide +kernel
theorem dX1_at_45 : decode cX1_at 45 = .ok (.invokestatic 42, 3) := by decide +kernel
theorem dX1_at_48 : decode cX1_at 48 = .ok (.iadd, 1) := by decide +kernel
theorem dX1_at_49 : decode cX1_at 49 = .ok (.ireturn, 1) := by decide +kernel
theorem dX1_at_50 : decode cX1_at 50 = .ok (.iload_n 3, 1) := by decide +kernel
theorem dX1_at_51 : decode cX1_at 51 = .ok (.iload 7, 2) := by decide +kernel
theorem dX1_at_53 : decode cX1_at 53 = .ok (.isub, 1) := by decide +kernel
theorem dX1_at_54 : decode cX1_at 54 = .ok (.istore_n 3, 1) := by decide +kernel
theorem dX1_at_55 : decode cX1_at 55 = .ok (.iinc 4 1, 3) := by decide +kernel
theorem dX1_at_58 : decode cX1_at 58 = .ok (.goto (-53), 3) := by decide +kernel
theorem dX1_at_61 : decode cX1_at 61 = .ok (.iconst (-1), 1) := by decide +kernel
theorem dX1_at_62 : decode cX1_at 62 = .ok (.ireturn, 1) := by decide +kernel
theorem dX1_word_0 : decode cX1_word 0 = .ok (.iload_n 2, 1) := by decide +kernel
theorem dX1_word_1 : decode cX1_word 1 = .ok (.ifCond .eq 19, 3) := by decide +kernel
theorem dX1_word_4 : decode cX1_word 4 = .ok (.aload_n 0, 1) := by decide +kernel
theorem dX1_word_5 : decode cX1_word 5 = .ok (.getfield 11, 3) := by decide +kernel
theorem dX1_word_8 : decode cX1_word 8 = .ok (.iload_n 1, 1) := by decide +kernel
theorem dX1_word_9 : decode cX1_word 9 = .ok (.laload, 1) := by decide +kernel
theorem dX1_word_10 : decode cX1_word 10 = .ok (.aload_n 0, 1) := by decide +kernel
theorem dX1_word_11 : decode cX1_word 11 = .ok (.getfield 15, 3) := by decide +kernel
theorem dX1_word_14 : decode cX1_word 14 = .ok (.iload_n 1, 1) := by decide +kernel
theorem dX1_word_15 : decode cX1_word 15 = .ok (.laload, 1) := by decide +kernel
theorem dX1_word_16 : decode cX1_word 16 = .ok (.lor, 1) := by decide +kernel
theorem dX1_word_17 : decode cX1_word 17 = .ok (.goto 9, 3) := by decide +kernel
theorem dX1_word_20 : decode cX1_word 20 = .ok (.aload_n 0, 1) := by decide +kernel
theorem dX1_word_21 : decode cX1_word 21 = .ok (.getfield 11, 3) := by decide +kernel
theorem dX1_word_24 : decode cX1_word 24 = .ok (.iload_n 1, 1) := by decide +kernel
theorem dX1_word_25 : decode cX1_word 25 = .ok (.laload, 1) := by decide +kernel
theorem dX1_word_26 : decode cX1_word 26 = .ok (.lreturn, 1) := by decide +kernel
set_option maxRecDepth 20000 in
theorem ggX1_placeOfBit_J13_bitCount_95d88 : GoodIn wsX1_placeOfBit wsJ13_bitCount_95d88 := goodIn_r _ [4, 5, 6, 7] (by decide +kernel) (by decide +kernel)
set_option maxRecDepth 20000 in
theorem gX1_placeOfBit_J13_bitCount_95d88 : GoodIn wsX1_placeOfBit (va_wsS RX1 36 yJ13_bitCount_95d88 wsJ13_bitCount_95d88) := goodIn_app (goodIn_of _ (by decide +kernel)) ggX1_placeOfBit_J13_bitCount_95d88
theorem dX1_placeOfBit_0 : decode cX1_placeOfBit 0 = .ok (.lload_n 0, 1) := by decide +kernel
theorem dX1_placeOfBit_1 : decode cX1_placeOfBit 1 = .ok (.lstore_n 3, 1) := by decide +kernel
theorem dX1_placeOfBit_2 : decode cX1_placeOfBit 2 = .ok (.iconst 0, 1) := by decide +kernel
theorem dX1_placeOfBit_3 : decode cX1_placeOfBit 3 = .ok (.istore 5, 2) := by decide +kernel
theorem dX1_placeOfBit_5 : decode cX1_placeOfBit 5 = .ok (.iload 5, 2) := by decide +kernel
theorem dX1_placeOfBit_7 : decode cX1_placeOfBit 7 = .ok (.iload_n 2, 1) := by decide +kernel
theorem dX1_placeOfBit_8 : decode cX1_placeOfBit 8 = .ok (.if_icmp .ge 15, 3) := by decide +kernel
theorem dX1_placeOfBit_11 : decode cX1_placeOfBit 11 = .ok (.lload_n 3, 1) := by decide +kernel
theorem dX1_placeOfBit_12 : decode cX1_placeOfBit 12 = .ok (.lload_n 3, 1) := by decide +kernel
theorem dX1_placeOfBit_13 : decode cX1_placeOfBit 13 = .ok (.lconst 1, 1) := by decide +kernel
theorem dX1_placeOfBit_14 : decode cX1_placeOfBit 14 = .ok (.lsub, 1) := by decide +kernel
theorem dX1_placeOfBit_15 : decode cX1_placeOfBit 15 = .ok (.land, 1) := by decide +kernel
theorem dX1_placeOfBit_16 : decode cX1_placeOfBit 16 = .ok (.lstore_n 3, 1) := by decide +kernel
theorem dX1_placeOfBit_17 : decode cX1_placeOfBit 17 = .ok (.iinc 5 1, 3) := by decide +kernel
theorem dX1_placeOfBit_20 : decode cX1_placeOfBit 20 = .ok (.goto (-15), 3) := by decide +kernel
theorem dX1_placeOfBit_23 : decode cX1_placeOfBit 23 = .ok (.lload_n 3, 1) := by decide +kernel
theorem dX1_placeOfBit_24 : decode cX1_placeOfBit 24 = .ok (.lload_n 3, 1) := by decide +kernel
theorem dX1_placeOfBit_25 : decode cX1_placeOfBit 25 = .ok (.lneg, 1) := by decide +kernel
theorem dX1_placeOfBit_26 : decode cX1_placeOfBit 26 = .ok (.land, 1) := by decide +kernel
theorem dX1_placeOfBit_27 : decode cX1_placeOfBit 27 = .ok (.lconst 1, 1) := by decide +kernel
theorem dX1_placeOfBit_28 : decode cX1_placeOfBit 28 = .ok (.lsub, 1) := by decide +kernel
theorem dX1_placeOfBit_29 : decode cX1_placeOfBit 29 = .ok (.invokestatic 36, 3) := by decide +kernel
theorem dX1_placeOfBit_32 : decode cX1_placeOfBit 32 = .ok (.ireturn, 1) := by decide +kernel
theorem dJ13_bitCount_95d88_0 : decode cJ13_bitCount_95d88 0 = .ok (.lload_n 0, 1) := by decide +kernel
theorem dJ13_bitCount_95d88_1 : decode cJ13_bitCount_95d88 1 = .ok (.lload_n 0, 1) := by decide +kernel
theorem dJ13_bitCount_95d88_2 : decode cJ13_bitCount_95d88 2 = .ok (.iconst 1, 1) := by decide +kernel
theorem dJ13_bitCount_95d88_3 : decode cJ13_bitCount_95d88 3 = .ok (.lushr, 1) := by decide +kernel
theorem dJ13_bitCount_95d88_4 : decode cJ13_bitCount_95d88 4 = .ok (.ldc2_w 314, 3) := by decide +kernel
theorem dJ13_bitCount_95d88_7 : decode cJ13_bitCount_95d88 7 = .ok (.land, 1) := by decide +kernel
theorem dJ13_bitCount_95d88_8 : decode cJ13_bitCount_95d88 8 = .ok (.lsub, 1) := by decide +kernel
theorem dJ13_bitCount_95d88_9 : decode cJ13_bitCount_95d88 9 = .ok (.lstore_n 0, 1) := by decide +kernel
theorem dJ13_bitCount_95d88_10 : decode cJ13_bitCount_95d88 10 = .ok (.lload_n 0, 1) := by decide +kernel
theorem dJ13_bitCount_95d88_11 : decode cJ13_bitCount_95d88 11 = .ok (.ldc2_w 316, 3) := by decide +kernel
theorem dJ13_bitCount_95d88_14 : decode cJ13_bitCount_95d88 14 = .ok (.land, 1) := by decide +kernel
theorem dJ13_bitCount_95d88_15 : decode cJ13_bitCount_95d88 15 = .ok (.lload_n 0, 1) := by decide +kernel
theorem dJ13_bitCount_95d88_16 : decode cJ13_bitCount_95d88 16 = .ok (.iconst 2, 1) := by decide +kernel
theorem dJ13_bitCount_95d88_17 : decode cJ13_bitCount_95d88 17 = .ok (.lushr, 1) := by decide +kernel
theorem dJ13_bitCount_95d88_18 : decode cJ13_bitCount_95d88 18 = .ok (.ldc2_w 316, 3) := by decide +kernel
theorem dJ13_bitCount_95d88_21 : decode cJ13_bitCount_95d88 21 = .ok (.land, 1) := by decide +kernel
theorem dJ13_bitCount_95d88_22 : decode cJ13_bitCount_95d88 22 = .ok (.ladd, 1) := by decide +kernel
theorem dJ13_bitCount_95d88_23 : decode cJ13_bitCount_95d88 23 = .ok (.lstore_n 0, 1) := by decide +kernel
theorem dJ13_bitCount_95d88_24 : decode cJ13_bitCount_95d88 24 = .ok (.lload_n 0, 1) := by decide +kernel
theorem dJ13_bitCount_95d88_25 : decode cJ13_bitCount_95d88 25 = .ok (.lload_n 0, 1) := by decide +kernel
theorem dJ13_bitCount_95d88_26 : decode cJ13_bitCount_95d88 26 = .ok (.iconst 4, 1) := by decide +kernel
theorem dJ13_bitCount_95d88_27 : decode cJ13_bitCount_95d88 27 = .ok (.lushr, 1) := by decide +kernel
theorem dJ13_bitCount_95d88_28 : decode cJ13_bitCount_95d88 28 = .ok (.ladd, 1) := by decide +kernel
theorem dJ13_bitCount_95d88_29 : decode cJ13_bitCount_95d88 29 = .ok (.ldc2_w 318, 3) := by decide +kernel
theorem dJ13_bitCount_95d88_32 : decode cJ13_bitCount_95d88 32 = .ok (.land, 1) := by decide +kernel
theorem dJ13_bitCount_95d88_33 : decode cJ13_bitCount_95d88 33 = .ok (.lstore_n 0, 1) := by decide +kernel
theorem dJ13_bitCount_95d88_34 : decode cJ13_bitCount_95d88 34 = .ok (.lload_n 0, 1) := by decide +kernel
theorem dJ13_bitCount_95d88_35 : decode cJ13_bitCount_95d88 35 = .ok (.lload_n 0, 1) := by decide +kernel
theorem dJ13_bitCount_95d88_36 : decode cJ13_bitCount_95d88 36 = .ok (.bipush 8, 2) := by decide +kernel
theorem dJ13_bitCount_95d88_38 : decode cJ13_bitCount_95d88 38 = .ok (.lushr, 1) := by decide +kernel
theorem dJ13_bitCount_95d88_39 : decode cJ13_bitCount_95d88 39 = .ok (.ladd, 1) := by decide +kernel
theorem dJ13_bitCount_95d88_40 : decode cJ13_bitCount_95d88 40 = .ok (.lstore_n 0, 1) := by decide +kernel
theorem dJ13_bitCount_95d88_41 : decode cJ13_bitCount_95d88 41 = .ok (.lload_n 0, 1) := by decide +kernel
theorem dJ13_bitCount_95d88_42 : decode cJ13_bitCount_95d88 42 = .ok (.lload_n 0, 1) := by decide +kernel
theorem dJ13_bitCount_95d88_43 : decode cJ13_bitCount_95d88 43 = .ok (.bipush 16, 2) := by decide +kernel
theorem dJ13_bitCount_95d88_45 : decode cJ13_bitCount_95d88 45 = .ok (.lushr, 1) := by decide +kernel
theorem dJ13_bitCount_95d88_46 : decode cJ13_bitCount_95d88 46 = .ok (.ladd, 1) := by decide +kernel
theorem dJ13_bitCount_95d88_47 : decode cJ13_bitCount_95d88 47 = .ok (.lstore_n 0, 1) := by decide +kernel
theorem dJ13_bitCount_95d88_48 : decode cJ13_bitCount_95d88 48 = .ok (.lload_n 0, 1) := by decide +kernel
theorem dJ13_bitCount_95d88_49 : decode cJ13_bitCount_95d88 49 = .ok (.lload_n 0, 1) := by decide +kernel
theorem dJ13_bitCount_95d88_50 : decode cJ13_bitCount_95d88 50 = .ok (.bipush 32, 2) := by decide +kernel
theorem dJ13_bitCount_95d88_52 : decode cJ13_bitCount_95d88 52 = .ok (.lushr, 1) := by decide +kernel
theorem dJ13_bitCount_95d88_53 : decode cJ13_bitCount_95d88 53 = .ok (.ladd, 1) := by decide +kernel
theorem dJ13_bitCount_95d88_54 : decode cJ13_bitCount_95d88 54 = .ok (.lstore_n 0, 1) := by decide +kernel
theorem dJ13_bitCount_95d88_55 : decode cJ13_bitCount_95d88 55 = .ok (.lload_n 0, 1) := by decide +kernel
theorem dJ13_bitCount_95d88_56 : decode cJ13_bitCount_95d88 56 = .ok (.l2i, 1) := by decide +kernel
theorem dJ13_bitCount_95d88_57 : decode cJ13_bitCount_95d88 57 = .ok (.bipush 127, 2) := by decide +kernel
theorem dJ13_bitCount_95d88_59 : decode cJ13_bitCount_95d88 59 = .ok (.iand, 1) := by decide +kernel
theorem dJ13_bitCount_95d88_60 : decode cJ13_bitCount_95d88 60 = .ok (.ireturn, 1) := by decide +kernel
theorem dJ7_fill_d0a16_0 : decode cJ7_fill_d0a16 0 = .ok (.iconst 0, 1) := by decide +kernel
theorem dJ7_fill_d0a16_1 : decode cJ7_fill_d0a16 1 = .ok (.istore_n 3, 1) := by decide +kernel
theorem dJ7_fill_d0a16_2 : decode cJ7_fill_d0a16 2 = .ok (.aload_n 0, 1) := by decide +kernel
theorem dJ7_fill_d0a16_3 : decode cJ7_fill_d0a16 3 = .ok (.arraylength, 1) := by decide +kernel
theorem dJ7_fill_d0a16_4 : decode cJ7_fill_d0a16 4 = .ok (.istore 4, 2) := by decide +kernel
theorem dJ7_fill_d0a16_6 : decode cJ7_fill_d0a16 6 = .ok (.iload_n 3, 1) := by decide +kernel
theorem dJ7_fill_d0a16_7 : decode cJ7_fill_d0a16 7 = .ok (.iload 4, 2) := by decide +kernel
theorem dJ7_fill_d0a16_9 : decode cJ7_fill_d0a16 9 = .ok (.if_icmp .ge 13, 3) := by decide +kernel
theorem dJ7_fill_d0a16_12 : decode cJ7_fill_d0a16 12 = .ok (.aload_n 0, 1) := by decide +kernel
theorem dJ7_fill_d0a16_13 : decode cJ7_fill_d0a16 13 = .ok (.iload_n 3, 1) := by decide +kernel
theorem dJ7_fill_d0a16_14 : decode cJ7_fill_d0a16 14 = .ok (.lload_n 1, 1) := by decide +kernel
theorem dJ7_fill_d0a16_15 : decode cJ7_fill_d0a16 15 = .ok (.lastore, 1) := by decide +kernel
theorem dJ7_fill_d0a16_16 : decode cJ7_fill_d0a16 16 = .ok (.iinc 3 1, 3) := by decide +kernel
theorem dJ7_fill_d0a16_19 : decode cJ7_fill_d0a16 19 = .ok (.goto (-13), 3) := by decide +kernel
theorem dJ7_fill_d0a16_22 : decode cJ7_fill_d0a16 22 = .ok (.return_, 1) := by decide +kernel
theorem dJ7_fill_53178_0 : decode cJ7_fill_53178 0 = .ok (.iconst 0, 1) := by decide +kernel
theorem dJ7_fill_53178_1 : decode cJ7_fill_53178 1 = .ok (.istore_n 2, 1) := by decide +kernel
theorem dJ7_fill_53178_2 : decode cJ7_fill_53178 2 = .ok (.aload_n 0, 1) := by decide +kernel
theorem dJ7_fill_53178_3 : decode cJ7_fill_53178 3 = .ok (.arraylength, 1) := by decide +kernel
theorem dJ7_fill_53178_4 : decode cJ7_fill_53178 4 = .ok (.istore_n 3, 1) := by decide +kernel
theorem dJ7_fill_53178_5 : decode cJ7_fill_53178 5 = .ok (.iload_n 2, 1) := by decide +kernel
theorem dJ7_fill_53178_6 : decode cJ7_fill_53178 6 = .ok (.iload_n 3, 1) := by decide +kernel
theorem dJ7_fill_53178_7 : decode cJ7_fill_53178 7 = .ok (.if_icmp .ge 13, 3) := by decide +kernel
theorem dJ7_fill_53178_10 : decode cJ7_fill_53178 10 = .ok (.aload_n 0, 1) := by decide +kernel
theorem dJ7_fill_53178_11 : decode cJ7_fill_53178 11 = .ok (.iload_n 2, 1) := by decide +kernel
theorem dJ7_fill_53178_12 : decode cJ7_fill_53178 12 = .ok (.iload_n 1, 1) := by decide +kernel
theorem dJ7_fill_53178_13 : decode cJ7_fill_53178 13 = .ok (.iastore, 1) := by decide +kernel
theorem dJ7_fill_53178_14 : decode cJ7_fill_53178 14 = .ok (.iinc 2 1, 3) := by decide +kernel
theorem dJ7_fill_53178_17 : decode cJ7_fill_53178 17 = .ok (.goto (-12), 3) := by decide +kernel
theorem dJ7_fill_53178_20 : decode cJ7_fill_53178 20 = .ok (.return_, 1) := by decide +kernel
