set_option maxRecDepth 20000 in
theorem ggJ0_length_8abf5_J0_coder_7d493 : GoodIn wsJ0_length_8abf5 wsJ0_coder_7d493 := goodIn_r _ [6, 7, 8] (by decide +kernel) (by decide +kernel)
set_option maxRecDepth 20000 in
theorem gJ0_length_8abf5_J0_coder_7d493 : GoodIn wsJ0_length_8abf5 (wsV RJ0 335 RJ0 yJ0_coder_7d493 wsJ0_coder_7d493) := goodIn_app (goodIn_of _ (by decide +kernel)) ggJ0_length_8abf5_J0_coder_7d493
theorem dJ0_length_8abf5_0 : decode cJ0_length_8abf5 0 = .ok (.aload_n 0, 1) := by decide +kernel
theorem dJ0_length_8abf5_1 : decode cJ0_length_8abf5 1 = .ok (.getfield 9, 3) := by decide +kernel
theorem dJ0_length_8abf5_4 : decode cJ0_length_8abf5 4 = .ok (.arraylength, 1) := by decide +kernel
theorem dJ0_length_8abf5_5 : decode cJ0_length_8abf5 5 = .ok (.aload_n 0, 1) := by decide +kernel
theorem dJ0_length_8abf5_6 : decode cJ0_length_8abf5 6 = .ok (.invokevirtual 335, 3) := by decide +kernel
theorem dJ0_length_8abf5_9 : decode cJ0_length_8abf5 9 = .ok (.ishr, 1) := by decide +kernel
theorem dJ0_length_8abf5_10 : decode cJ0_length_8abf5 10 = .ok (.ireturn, 1) := by decide +kernel
set_option maxRecDepth 20000 in
theorem ggJ0_charAt_5068e_J0_isLatin1_aae02 : GoodIn wsJ0_charAt_5068e wsJ0_isLatin1_aae02 := goodIn_r _ [6, 7, 8] (by decide +kernel) (by decide +kernel)
set_option maxRecDepth 20000 in
theorem gJ0_charAt_5068e_J0_isLatin1_aae02 : GoodIn wsJ0_charAt_5068e (wsV RJ0 492 RJ0 yJ0_isLatin1_aae02 wsJ0_isLatin1_aae02) := goodIn_app (goodIn_of _ (by decide +kernel)) ggJ0_charAt_5068e_J0_isLatin1_aae02
set_option maxRecDepth 20000 in
theorem ggJ0_charAt_5068e_J1_charAt_3b067 : GoodIn wsJ0_charAt_5068e wsJ1_charAt_3b067 := goodIn_r _ [12, 13, 14, 5, 15, 16, 17, 18, 19, 20] (by decide +kernel) (by decide +kernel)
set_option maxRecDepth 20000 in
theorem gJ0_charAt_5068e_J1_charAt_3b067 : GoodIn wsJ0_charAt_5068e (va_wsS RJ0 495 yJ1_charAt_3b067 wsJ1_charAt_3b067) := goodIn_app (goodIn_of _ (by decide +kernel)) ggJ0_charAt_5068e_J1_charAt_3b067
set_option maxRecDepth 20000 in
theorem ggJ0_charAt_5068e_J2_charAt_3b067 : GoodIn wsJ0_charAt_5068e wsJ2_charAt_3b067 := goodIn_r _ [24, 25, 26, 23, 27, 28, 29, 30, 31, 14, 5, 15, 16, 17, 18, 19, 20, 32, 33, 34, 35, 36, 37] (by decide +kernel) (by decide +kernel)
set_option maxRecDepth 20000 in
theorem gJ0_charAt_5068e_J2_charAt_3b067 : GoodIn wsJ0_charAt_5068e (va_wsS RJ0 498 yJ2_charAt_3b067 wsJ2_charAt_3b067) := goodIn_app (goodIn_of _ (by decide +kernel)) ggJ0_charAt_5068e_J2_charAt_3b067
theorem dJ0_charAt_5068e_0 : decode cJ0_charAt_5068e 0 = .ok (.aload_n 0, 1) := by decide +kernel
theorem dJ0_charAt_5068e_1 : decode cJ0_charAt_5068e 1 = .ok (.invokevirtual 492, 3) := by decide +kernel
theorem dJ0_charAt_5068e_4 : decode cJ0_charAt_5068e 4 = .ok (.ifCond .eq 12, 3) := by decide +kernel
theorem dJ0_charAt_5068e_7 : decode cJ0_charAt_5068e 7 = .ok (.aload_n 0, 1) := by decide +kernel
theorem dJ0_charAt_5068e_8 : decode cJ0_charAt_5068e 8 = .ok (.getfield 9, 3) := by decide +kernel
theorem dJ0_charAt_5068e_11 : decode cJ0_charAt_5068e 11 = .ok (.iload_n 1, 1) := by decide +kernel
theorem dJ0_charAt_5068e_12 : decode cJ0_charAt_5068e 12 = .ok (.invokestatic 495, 3) := by decide +kernel
theorem dJ0_charAt_5068e_15 : decode cJ0_charAt_5068e 15 = .ok (.ireturn, 1) := by decide +kernel
theorem dJ0_charAt_5068e_16 : decode cJ0_charAt_5068e 16 = .ok (.aload_n 0, 1) := by decide +kernel
theorem dJ0_charAt_5068e_17 : decode cJ0_charAt_5068e 17 = .ok (.getfield 9, 3) := by decide +kernel
theorem dJ0_charAt_5068e_20 : decode cJ0_charAt_5068e 20 = .ok (.iload_n 1, 1) := by decide +kernel
theorem dJ0_charAt_5068e_21 : decode cJ0_charAt_5068e 21 = .ok (.invokestatic 498, 3) := by decide +kernel
theorem dJ0_charAt_5068e_24 : decode cJ0_charAt_5068e 24 = .ok (.ireturn, 1) := by decide +kernel
set_option maxRecDepth 20000 in
theorem ggJ0_indexOf_0f7a4_J0_indexOf_7cf53 : GoodIn wsJ0_indexOf_0f7a4 wsJ0_indexOf_7cf53 := goodIn_r _ [5, 6, 7, 8, 9, 4, 10, 11, 12, 13, 14, 15, 16, 17, 18, 19, 20, 21, 22, 23, 24, 25, 26, 27, 28, 29, 30, 31, 32, 33, 34, 35, 36, 37, 38, 39, 40, 41, 42, 43, 44, 45, 46, 47, 48, 49, 50, 51, 52, 53, 54, 55, 56, 57, 58, 59, 60, 61, 62, 63, 64, 65, 66, 67, 68, 69, 70, 71, 72, 73, 74, 75, 76, 77, 78, 79, 80, 81, 82, 83, 84, 85] (by decide +kernel) (by decide +kernel)
set_option maxRecDepth 20000 in
theorem gJ0_indexOf_0f7a4_J0_indexOf_7cf53 : GoodIn wsJ0_indexOf_0f7a4 (wsV RJ0 633 RJ0 yJ0_indexOf_7cf53 wsJ0_indexOf_7cf53) := goodIn_app (goodIn_of _ (by decide +kernel)) ggJ0_indexOf_0f7a4_J0_indexOf_7cf53
theorem dJ0_indexOf_0f7a4_0 : decode cJ0_indexOf_0f7a4 0 = .ok (.aload_n 0, 1) := by decide +kernel
theorem dJ0_indexOf_0f7a4_1 : decode cJ0_indexOf_0f7a4 1 = .ok (.iload_n 1, 1) := by decide +kernel
theorem dJ0_indexOf_0f7a4_2 : decode cJ0_indexOf_0f7a4 2 = .ok (.iconst 0, 1) := by decide +kernel
theorem dJ0_indexOf_0f7a4_3 : decode cJ0_indexOf_0f7a4 3 = .ok (.invokevirtual 633, 3) := by decide +kernel
theorem dJ0_indexOf_0f7a4_6 : decode cJ0_indexOf_0f7a4 6 = .ok (.ireturn, 1) := by decide +kernel
set_option maxRecDepth 20000 in
theorem ggJ0_indexOf_7cf53_J0_isLatin1_aae02 : GoodIn wsJ0_indexOf_7cf53 wsJ0_isLatin1_aae02 := goodIn_r _ [6, 7, 8] (by decide +kernel) (by decide +kernel)
set_option maxRecDepth 20000 in
theorem gJ0_indexOf_7cf53_J0_isLatin1_aae02 : GoodIn wsJ0_indexOf_7cf53 (wsV RJ0 492 RJ0 yJ0_isLatin1_aae02 wsJ0_isLatin1_aae02) := goodIn_app (goodIn_of _ (by decide +kernel)) ggJ0_indexOf_7cf53_J0_isLatin1_aae02
set_option maxRecDepth 20000 in
theorem ggJ0_indexOf_7cf53_J0_length_8abf5 : GoodIn wsJ0_indexOf_7cf53 wsJ0_length_8abf5 := goodIn_r _ [12, 1, 13, 14, 15, 5, 16, 7, 8] (by decide +kernel) (by decide +kernel)
set_option maxRecDepth 20000 in
theorem gJ0_indexOf_7cf53_J0_length_8abf5 : GoodIn wsJ0_indexOf_7cf53 (wsV RJ0 505 RJ0 yJ0_length_8abf5 wsJ0_length_8abf5) := goodIn_app (goodIn_of _ (by decide +kernel)) ggJ0_indexOf_7cf53_J0_length_8abf5
set_option maxRecDepth 20000 in
theorem ggJ0_indexOf_7cf53_J1_indexOf_4cfef : GoodIn wsJ0_indexOf_7cf53 wsJ1_indexOf_4cfef := goodIn_r _ [20, 21, 22, 23, 24, 25, 26, 27, 28, 29, 19, 30, 31, 32, 33] (by decide +kernel) (by decide +kernel)
set_option maxRecDepth 20000 in
theorem gJ0_indexOf_7cf53_J1_indexOf_4cfef : GoodIn wsJ0_indexOf_7cf53 (va_wsS RJ0 637 yJ1_indexOf_4cfef wsJ1_indexOf_4cfef) := goodIn_app (goodIn_of _ (by decide +kernel)) ggJ0_indexOf_7cf53_J1_indexOf_4cfef
set_option maxRecDepth 20000 in
theorem ggJ0_indexOf_7cf53_J2_indexOf_4cfef : GoodIn wsJ0_indexOf_7cf53 wsJ2_indexOf_4cfef := goodIn_r _ [37, 38, 22, 23, 24, 39, 26, 27, 40, 41, 42, 36, 43, 44, 45, 46, 47, 48, 49, 50, 51, 5, 52, 53, 54, 55, 56, 57, 58, 59, 60, 61, 62, 63, 64, 65, 66, 67, 68, 69, 70, 71, 72, 73, 74, 75, 76, 77, 78, 79, 80, 81] (by decide +kernel) (by decide +kernel)
set_option maxRecDepth 20000 in
theorem gJ0_indexOf_7cf53_J2_indexOf_4cfef : GoodIn wsJ0_indexOf_7cf53 (va_wsS RJ0 640 yJ2_indexOf_4cfef wsJ2_indexOf_4cfef) := goodIn_app (goodIn_of _ (by decide +kernel)) ggJ0_indexOf_7cf53_J2_indexOf_4cfef
theorem dJ0_indexOf_7cf53_0 : decode cJ0_indexOf_7cf53 0 = .ok (.aload_n 0, 1) := by decide +kernel
theorem dJ0_indexOf_7cf53_1 : decode cJ0_indexOf_7cf53 1 = .ok (.invokevirtual 492, 3) := by decide +kernel
theorem dJ0_indexOf_7cf53_4 : decode cJ0_indexOf_7cf53 4 = .ok (.ifCond .eq 19, 3) := by decide +kernel
theorem dJ0_indexOf_7cf53_7 : decode cJ0_indexOf_7cf53 7 = .ok (.aload_n 0, 1) := by decide +kernel
theorem dJ0_indexOf_7cf53_8 : decode cJ0_indexOf_7cf53 8 = .ok (.getfield 9, 3) := by decide +kernel
theorem dJ0_indexOf_7cf53_11 : decode cJ0_indexOf_7cf53 11 = .ok (.iload_n 1, 1) := by decide +kernel
theorem dJ0_indexOf_7cf53_12 : decode cJ0_indexOf_7cf53 12 = .ok (.iload_n 2, 1) := by decide +kernel
theorem dJ0_indexOf_7cf53_13 : decode cJ0_indexOf_7cf53 13 = .ok (.aload_n 0, 1) := by decide +kernel
theorem dJ0_indexOf_7cf53_14 : decode cJ0_indexOf_7cf53 14 = .ok (.invokevirtual 505, 3) := by decide +kernel
theorem dJ0_indexOf_7cf53_17 : decode cJ0_indexOf_7cf53 17 = .ok (.invokestatic 637, 3) := by decide +kernel
theorem dJ0_indexOf_7cf53_20 : decode cJ0_indexOf_7cf53 20 = .ok (.goto 16, 3) := by decide +kernel
theorem dJ0_indexOf_7cf53_23 : decode cJ0_indexOf_7cf53 23 = .ok (.aload_n 0, 1) := by decide +kernel
theorem dJ0_indexOf_7cf53_24 : decode cJ0_indexOf_7cf53 24 = .ok (.getfield 9, 3) := by decide +kernel
theorem dJ0_indexOf_7cf53_27 : decode cJ0_indexOf_7cf53 27 = .ok (.iload_n 1, 1) := by decide +kernel
theorem dJ0_indexOf_7cf53_28 : decode cJ0_indexOf_7cf53 28 = .ok (.iload_n 2, 1) := by decide +kernel
theorem dJ0_indexOf_7cf53_29 : decode cJ0_indexOf_7cf53 29 = .ok (.aload_n 0, 1) := by decide +kernel
theorem dJ0_indexOf_7cf53_30 : decode cJ0_indexOf_7cf53 30 = .ok (.invokevirtual 505, 3) := by decide +kernel
theorem dJ0_indexOf_7cf53_33 : decode cJ0_indexOf_7cf53 33 = .ok (.invokestatic 640, 3) := by decide +kernel
theorem dJ0_indexOf_7cf53_36 : decode cJ0_indexOf_7cf53 36 = .ok (.ireturn, 1) := by decide +kernel
theorem dJ0_coder_7d493_0 : decode cJ0_coder_7d493 0 = .ok (.getstatic 38, 3) := by decide +kernel
theorem dJ0_coder_7d493_3 : decode cJ0_coder_7d493 3 = .ok (.ifCond .eq 10, 3) := by decide +kernel
theorem dJ0_coder_7d493_6 : decode cJ0_coder_7d493 6 = .ok (.aload_n 0, 1) := by decide +kernel
theorem dJ0_coder_7d493_7 : decode cJ0_coder_7d493 7 = .ok (.getfield 15, 3) := by decide +kernel
theorem dJ0_coder_7d493_10 : decode cJ0_coder_7d493 10 = .ok (.goto 4, 3) := by decide +kernel
theorem dJ0_coder_7d493_13 : decode cJ0_coder_7d493 13 = .ok (.iconst 1, 1) := by decide +kernel
theorem dJ0_coder_7d493_14 : decode cJ0_coder_7d493 14 = .ok (.ireturn, 1) := by decide +kernel
theorem dJ0_isLatin1_aae02_0 : decode cJ0_isLatin1_aae02 0 = .ok (.getstatic 38, 3) := by decide +kernel
theorem dJ0_isLatin1_aae02_3 : decode cJ0_isLatin1_aae02 3 = .ok (.ifCond .eq 14, 3) := by decide +kernel
theorem dJ0_isLatin1_aae02_6 : decode cJ0_isLatin1_aae02 6 = .ok (.aload_n 0, 1) := by decide +kernel
theorem dJ0_isLatin1_aae02_7 : decode cJ0_isLatin1_aae02 7 = .ok (.getfield 15, 3) := by decide +kernel
theorem dJ0_isLatin1_aae02_10 : decode cJ0_isLatin1_aae02 10 = .ok (.ifCond .ne 7, 3) := by decide +kernel
theorem dJ0_isLatin1_aae02_13 : decode cJ0_isLatin1_aae02 13 = .ok (.iconst 1, 1) := by decide +kernel
theorem dJ0_isLatin1_aae02_14 : decode cJ0_isLatin1_aae02 14 = .ok (.goto 4, 3) := by decide +kernel
theorem dJ0_isLatin1_aae02_17 : decode cJ0_isLatin1_aae02 17 = .ok (.iconst 0, 1) := by decide +kernel
theorem dJ0_isLatin1_aae02_18 : decode cJ0_isLatin1_aae02 18 = .ok (.ireturn, 1) := by decide +kernel
set_option maxRecDepth 20000 in
theorem ggJ0_checkIndex_df160_J3_checkIndex_8e157 : GoodIn wsJ0_checkIndex_df160 wsJ3_checkIndex_8e157 := goodIn_r _ [5] (by decide +kernel) (by decide +kernel)
set_option maxRecDepth 20000 in
theorem gJ0_checkIndex_df160_J3_checkIndex_8e157 : GoodIn wsJ0_checkIndex_df160 (va_wsS RJ0 1059 yJ3_checkIndex_8e157 wsJ3_checkIndex_8e157) := goodIn_app (goodIn_of _ (by decide +kernel)) ggJ0_checkIndex_df160_J3_checkIndex_8e157
theorem dJ0_checkIndex_df160_0 : decode cJ0_checkIndex_df160 0 = .ok (.iload_n 0, 1) := by decide +kernel
theorem dJ0_checkIndex_df160_1 : decode cJ0_checkIndex_df160 1 = .ok (.iload_n 1, 1) := by decide +kernel
theorem dJ0_checkIndex_df160_2 : decode cJ0_checkIndex_df160 2 = .ok (.getstatic 1053, 3) := by decide +kernel
theorem dJ0_checkIndex_df160_5 : decode cJ0_checkIndex_df160 5 = .ok (.invokestatic 1059, 3) := by decide +kernel
theorem dJ0_checkIndex_df160_8 : decode cJ0_checkIndex_df160 8 = .ok (.pop, 1) := by decide +kernel
theorem dJ0_checkIndex_df160_9 : decode cJ0_checkIndex_df160 9 = .ok (.return_, 1) := by decide +kernel
set_option maxRecDepth 20000 in
theorem ggJ0_checkBoundsBeginEnd_23922_J3_checkFromToIndex_8c36e : GoodIn wsJ0_checkBoundsBeginEnd_23922 wsJ3_checkFromToIndex_8c36e := goodIn_r _ [5] (by decide +kernel) (by decide +kernel)
set_option maxRecDepth 20000 in
theorem gJ0_checkBoundsBeginEnd_23922_J3_checkFromToIndex_8c36e : GoodIn wsJ0_checkBoundsBeginEnd_23922 (va_wsS RJ0 1062 yJ3_checkFromToIndex_8c36e wsJ3_checkFromToIndex_8c36e) := goodIn_app (goodIn_of _ (by decide +kernel)) ggJ0_checkBoundsBeginEnd_23922_J3_checkFromToIndex_8c36e
theorem dJ0_checkBoundsBeginEnd_23922_0 : decode cJ0_checkBoundsBeginEnd_23922 0 = .ok (.iload_n 0, 1) := by decide +kernel
theorem dJ0_checkBoundsBeginEnd_23922_1 : decode cJ0_checkBoundsBeginEnd_23922 1 = .ok (.iload_n 1, 1) := by decide +kernel
theorem dJ0_checkBoundsBeginEnd_23922_2 : decode cJ0_checkBoundsBeginEnd_23922 2 = .ok (.iload_n 2, 1) := by decide +kernel
theorem dJ0_checkBoundsBeginEnd_23922_3 : decode cJ0_checkBoundsBeginEnd_23922 3 = .ok (.getstatic 1053, 3) := by decide +kernel
theorem dJ0_checkBoundsBeginEnd_23922_6 : decode cJ0_checkBoundsBeginEnd_23922 6 = .ok (.invokestatic 1062, 3) := by decide +kernel
theorem dJ0_checkBoundsBeginEnd_23922_9 : decode cJ0_checkBoundsBeginEnd_23922 9 = .ok (.pop, 1) := by decide +kernel
theorem dJ0_checkBoundsBeginEnd_23922_10 : decode cJ0_checkBoundsBeginEnd_23922 10 = .ok (.return_, 1) := by decide +kernel
set_option maxRecDepth 20000 in
theorem ggJ1_charAt_3b067_J0_checkIndex_df160 : GoodIn wsJ1_charAt_3b067 wsJ0_checkIndex_df160 := goodIn_r _ [4, 5, 6, 7, 8, 9] (by decide +kernel) (by decide +kernel)
set_option maxRecDepth 20000 in
theorem gJ1_charAt_3b067_J0_checkIndex_df160 : GoodIn wsJ1_charAt_3b067 (va_wsS RJ1 9 yJ0_checkIndex_df160 wsJ0_checkIndex_df160) := goodIn_app (goodIn_of _ (by decide +kernel)) ggJ1_charAt_3b067_J0_checkIndex_df160
theorem dJ1_charAt_3b067_0 : decode cJ1_charAt_3b067 0 = .ok (.iload_n 1, 1) := by decide +kernel
theorem dJ1_charAt_3b067_1 : decode cJ1_charAt_3b067 1 = .ok (.aload_n 0, 1) := by decide +kernel
theorem dJ1_charAt_3b067_2 : decode cJ1_charAt_3b067 2 = .ok (.arraylength, 1) := by decide +kernel
theorem dJ1_charAt_3b067_3 : decode cJ1_charAt_3b067 3 = .ok (.invokestatic 9, 3) := by decide +kernel
theorem dJ1_charAt_3b067_6 : decode cJ1_charAt_3b067 6 = .ok (.aload_n 0, 1) := by decide +kernel
theorem dJ1_charAt_3b067_7 : decode cJ1_charAt_3b067 7 = .ok (.iload_n 1, 1) := by decide +kernel
theorem dJ1_charAt_3b067_8 : decode cJ1_charAt_3b067 8 = .ok (.baload, 1) := by decide +kernel
theorem dJ1_charAt_3b067_9 : decode cJ1_charAt_3b067 9 = .ok (.sipush 255, 3) := by decide +kernel
theorem dJ1_charAt_3b067_12 : decode cJ1_charAt_3b067 12 = .ok (.iand, 1) := by decide +kernel
theorem dJ1_charAt_3b067_13 : decode cJ1_charAt_3b067 13 = .ok (.i2c, 1) := by decide +kernel
theorem dJ1_charAt_3b067_14 : decode cJ1_charAt_3b067 14 = .ok (.ireturn, 1) := by decide +kernel
theorem dJ1_canEncode_9a6ad_0 : decode cJ1_canEncode_9a6ad 0 = .ok (.iload_n 0, 1) := by decide +kernel
theorem dJ1_canEncode_9a6ad_1 : decode cJ1_canEncode_9a6ad 1 = .ok (.ifCond .lt 14, 3) := by decide +kernel
theorem dJ1_canEncode_9a6ad_4 : decode cJ1_canEncode_9a6ad 4 = .ok (.iload_n 0, 1) := by decide +kernel
theorem dJ1_canEncode_9a6ad_5 : decode cJ1_canEncode_9a6ad 5 = .ok (.sipush 255, 3) := by decide +kernel
theorem dJ1_canEncode_9a6ad_8 : decode cJ1_canEncode_9a6ad 8 = .ok (.if_icmp .gt 7, 3) := by decide +kernel
theorem dJ1_canEncode_9a6ad_11 : decode cJ1_canEncode_9a6ad 11 = .ok (.iconst 1, 1) := by decide +kernel
theorem dJ1_canEncode_9a6ad_12 : decode cJ1_canEncode_9a6ad 12 = .ok (.goto 4, 3) := by decide +kernel
theorem dJ1_canEncode_9a6ad_15 : decode cJ1_canEncode_9a6ad 15 = .ok (.iconst 0, 1) := by decide +kernel
theorem dJ1_canEncode_9a6ad_16 : decode cJ1_canEncode_9a6ad 16 = .ok (.ireturn, 1) := by decide +kernel
set_option maxRecDepth 20000 in
theorem ggJ1_indexOf_4cfef_J1_canEncode_9a6ad : GoodIn wsJ1_indexOf_4cfef wsJ1_canEncode_9a6ad := goodIn_r _ [11] (by decide +kernel) (by decide +kernel)
set_option maxRecDepth 20000 in
theorem gJ1_indexOf_4cfef_J1_canEncode_9a6ad : GoodIn wsJ1_indexOf_4cfef (va_wsS RJ1 88 yJ1_canEncode_9a6ad wsJ1_canEncode_9a6ad) := goodIn_app (goodIn_of _ (by decide +kernel)) ggJ1_indexOf_4cfef_J1_canEncode_9a6ad
set_option maxRecDepth 20000 in
theorem ggJ1_indexOf_4cfef_J1_indexOfChar_4cfef : GoodIn wsJ1_indexOf_4cfef wsJ1_indexOfChar_4cfef := goodIn_r _ [14] (by decide +kernel) (by decide +kernel)
set_option maxRecDepth 20000 in
theorem gJ1_indexOf_4cfef_J1_indexOfChar_4cfef : GoodIn wsJ1_indexOf_4cfef (va_wsS RJ1 95 yJ1_indexOfChar_4cfef wsJ1_indexOfChar_4cfef) := goodIn_app (goodIn_of _ (by decide +kernel)) ggJ1_indexOf_4cfef_J1_indexOfChar_4cfef
theorem dJ1_indexOf_4cfef_0 : decode cJ1_indexOf_4cfef 0 = .ok (.iload_n 1, 1) := by decide +kernel
theorem dJ1_indexOf_4cfef_1 : decode cJ1_indexOf_4cfef 1 = .ok (.invokestatic 88, 3) := by decide +kernel
theorem dJ1_indexOf_4cfef_4 : decode cJ1_indexOf_4cfef 4 = .ok (.ifCond .ne 5, 3) := by decide +kernel
theorem dJ1_indexOf_4cfef_7 : decode cJ1_indexOf_4cfef 7 = .ok (.iconst (-1), 1) := by decide +kernel
theorem dJ1_indexOf_4cfef_8 : decode cJ1_indexOf_4cfef 8 = .ok (.ireturn, 1) := by decide +kernel
theorem dJ1_indexOf_4cfef_9 : decode cJ1_indexOf_4cfef 9 = .ok (.iload_n 2, 1) := by decide +kernel
theorem dJ1_indexOf_4cfef_10 : decode cJ1_indexOf_4cfef 10 = .ok (.iconst 0, 1) := by decide +kernel
theorem dJ1_indexOf_4cfef_11 : decode cJ1_indexOf_4cfef 11 = .ok (.invokestatic 92, 3) := by decide +kernel
theorem dJ1_indexOf_4cfef_14 : decode cJ1_indexOf_4cfef 14 = .ok (.istore_n 2, 1) := by decide +kernel
theorem dJ1_indexOf_4cfef_15 : decode cJ1_indexOf_4cfef 15 = .ok (.iload_n 3, 1) := by decide +kernel
theorem dJ1_indexOf_4cfef_16 : decode cJ1_indexOf_4cfef 16 = .ok (.aload_n 0, 1) := by decide +kernel
theorem dJ1_indexOf_4cfef_17 : decode cJ1_indexOf_4cfef 17 = .ok (.arraylength, 1) := by decide +kernel
theorem dJ1_indexOf_4cfef_18 : decode cJ1_indexOf_4cfef 18 = .ok (.invokestatic 38, 3) := by decide +kernel
theorem dJ1_indexOf_4cfef_21 : decode cJ1_indexOf_4cfef 21 = .ok (.istore_n 3, 1) := by decide +kernel
theorem dJ1_indexOf_4cfef_22 : decode cJ1_indexOf_4cfef 22 = .ok (.iload_n 2, 1) := by decide +kernel
theorem dJ1_indexOf_4cfef_23 : decode cJ1_indexOf_4cfef 23 = .ok (.iload_n 3, 1) := by decide +kernel
theorem dJ1_indexOf_4cfef_24 : decode cJ1_indexOf_4cfef 24 = .ok (.if_icmp .lt 5, 3) := by decide +kernel
theorem dJ1_indexOf_4cfef_27 : decode cJ1_indexOf_4cfef 27 = .ok (.iconst (-1), 1) := by decide +kernel
theorem dJ1_indexOf_4cfef_28 : decode cJ1_indexOf_4cfef 28 = .ok (.ireturn, 1) := by decide +kernel
theorem dJ1_indexOf_4cfef_29 : decode cJ1_indexOf_4cfef 29 = .ok (.aload_n 0, 1) := by decide +kernel
theorem dJ1_indexOf_4cfef_30 : decode cJ1_indexOf_4cfef 30 = .ok (.iload_n 1, 1) := by decide +kernel
theorem dJ1_indexOf_4cfef_31 : decode cJ1_indexOf_4cfef 31 = .ok (.iload_n 2, 1) := by decide +kernel
theorem dJ1_indexOf_4cfef_32 : decode cJ1_indexOf_4cfef 32 = .ok (.iload_n 3, 1) := by decide +kernel
theorem dJ1_indexOf_4cfef_33 : decode cJ1_indexOf_4cfef 33 = .ok (.invokestatic 95, 3) := by decide +kernel
theorem dJ1_indexOf_4cfef_36 : decode cJ1_indexOf_4cfef 36 = .ok (.ireturn, 1) := by decide +kernel
theorem dJ1_indexOfChar_4cfef_0 : decode cJ1_indexOfChar_4cfef 0 = .ok (.iload_n 1, 1) := by decide +kernel
theorem dJ1_indexOfChar_4cfef_1 : decode cJ1_indexOfChar_4cfef 1 = .ok (.i2b, 1) := by decide +kernel
theorem dJ1_indexOfChar_4cfef_2 : decode cJ1_indexOfChar_4cfef 2 = .ok (.istore 4, 2) := by decide +kernel
theorem dJ1_indexOfChar_4cfef_4 : decode cJ1_indexOfChar_4cfef 4 = .ok (.iload_n 2, 1) := by decide +kernel
theorem dJ1_indexOfChar_4cfef_5 : decode cJ1_indexOfChar_4cfef 5 = .ok (.istore 5, 2) := by decide +kernel
theorem dJ1_indexOfChar_4cfef_7 : decode cJ1_indexOfChar_4cfef 7 = .ok (.iload 5, 2) := by decide +kernel
theorem dJ1_indexOfChar_4cfef_9 : decode cJ1_indexOfChar_4cfef 9 = .ok (.iload_n 3, 1) := by decide +kernel
theorem dJ1_indexOfChar_4cfef_10 : decode cJ1_indexOfChar_4cfef 10 = .ok (.if_icmp .ge 21, 3) := by decide +kernel
theorem dJ1_indexOfChar_4cfef_13 : decode cJ1_indexOfChar_4cfef 13 = .ok (.aload_n 0, 1) := by decide +kernel
theorem dJ1_indexOfChar_4cfef_14 : decode cJ1_indexOfChar_4cfef 14 = .ok (.iload 5, 2) := by decide +kernel
theorem dJ1_indexOfChar_4cfef_16 : decode cJ1_indexOfChar_4cfef 16 = .ok (.baload, 1) := by decide +kernel
theorem dJ1_indexOfChar_4cfef_17 : decode cJ1_indexOfChar_4cfef 17 = .ok (.iload 4, 2) := by decide +kernel
theorem dJ1_indexOfChar_4cfef_19 : decode cJ1_indexOfChar_4cfef 19 = .ok (.if_icmp .ne 6, 3) := by decide +kernel
theorem dJ1_indexOfChar_4cfef_22 : decode cJ1_indexOfChar_4cfef 22 = .ok (.iload 5, 2) := by decide +kernel
theorem dJ1_indexOfChar_4cfef_24 : decode cJ1_indexOfChar_4cfef 24 = .ok (.ireturn, 1) := by decide +kernel
theorem dJ1_indexOfChar_4cfef_25 : decode cJ1_indexOfChar_4cfef 25 = .ok (.iinc 5 1, 3) := by decide +kernel
theorem dJ1_indexOfChar_4cfef_28 : decode cJ1_indexOfChar_4cfef 28 = .ok (.goto (-21), 3) := by decide +kernel
theorem dJ1_indexOfChar_4cfef_31 : decode cJ1_indexOfChar_4cfef 31 = .ok (.iconst (-1), 1) := by decide +kernel
theorem dJ1_indexOfChar_4cfef_32 : decode cJ1_indexOfChar_4cfef 32 = .ok (.ireturn, 1) := by decide +kernel
theorem dJ3_checkIndex_8e157_0 : decode cJ3_checkIndex_8e157 0 = .ok (.iload_n 0, 1) := by decide +kernel
theorem dJ3_checkIndex_8e157_1 : decode cJ3_checkIndex_8e157 1 = .ok (.ifCond .lt 8, 3) := by decide +kernel
theorem dJ3_checkIndex_8e157_4 : decode cJ3_checkIndex_8e157 4 = .ok (.iload_n 0, 1) := by decide +kernel
theorem dJ3_checkIndex_8e157_5 : decode cJ3_checkIndex_8e157 5 = .ok (.iload_n 1, 1) := by decide +kernel
theorem dJ3_checkIndex_8e157_6 : decode cJ3_checkIndex_8e157 6 = .ok (.if_icmp .lt 10, 3) := by decide +kernel
theorem dJ3_checkIndex_8e157_9 : decode cJ3_checkIndex_8e157 9 = .ok (.aload_n 2, 1) := by decide +kernel
theorem dJ3_checkIndex_8e157_10 : decode cJ3_checkIndex_8e157 10 = .ok (.iload_n 0, 1) := by decide +kernel
theorem dJ3_checkIndex_8e157_11 : decode cJ3_checkIndex_8e157 11 = .ok (.iload_n 1, 1) := by decide +kernel
theorem dJ3_checkIndex_8e157_12 : decode cJ3_checkIndex_8e157 12 = .ok (.invokestatic 95, 3) := by decide +kernel
theorem dJ3_checkIndex_8e157_15 : decode cJ3_checkIndex_8e157 15 = .ok (.athrow, 1) := by decide +kernel
theorem dJ3_checkIndex_8e157_16 : decode cJ3_checkIndex_8e157 16 = .ok (.iload_n 0, 1) := by decide +kernel
theorem dJ3_checkIndex_8e157_17 : decode cJ3_checkIndex_8e157 17 = .ok (.ireturn, 1) := by decide +kernel
theorem dJ3_checkFromToIndex_8c36e_0 : decode cJ3_checkFromToIndex_8c36e 0 = .ok (.iload_n 0, 1) := by decide +kernel
theorem dJ3_checkFromToIndex_8c36e_1 : decode cJ3_checkFromToIndex_8c36e 1 = .ok (.ifCond .lt 13, 3) := by decide +kernel
theorem dJ3_checkFromToIndex_8c36e_4 : decode cJ3_checkFromToIndex_8c36e 4 = .ok (.iload_n 0, 1) := by decide +kernel
theorem dJ3_checkFromToIndex_8c36e_5 : decode cJ3_checkFromToIndex_8c36e 5 = .ok (.iload_n 1, 1) := by decide +kernel
theorem dJ3_checkFromToIndex_8c36e_6 : decode cJ3_checkFromToIndex_8c36e 6 = .ok (.if_icmp .gt 8, 3) := by decide +kernel
theorem dJ3_checkFromToIndex_8c36e_9 : decode cJ3_checkFromToIndex_8c36e 9 = .ok (.iload_n 1, 1) := by decide +kernel
theorem dJ3_checkFromToIndex_8c36e_10 : decode cJ3_checkFromToIndex_8c36e 10 = .ok (.iload_n 2, 1) := by decide +kernel
theorem dJ3_checkFromToIndex_8c36e_11 : decode cJ3_checkFromToIndex_8c36e 11 = .ok (.if_icmp .le 11, 3) := by decide +kernel
theorem dJ3_checkFromToIndex_8c36e_14 : decode cJ3_checkFromToIndex_8c36e 14 = .ok (.aload_n 3, 1) := by decide +kernel
theorem dJ3_checkFromToIndex_8c36e_15 : decode cJ3_checkFromToIndex_8c36e 15 = .ok (.iload_n 0, 1) := by decide +kernel
theorem dJ3_checkFromToIndex_8c36e_16 : decode cJ3_checkFromToIndex_8c36e 16 = .ok (.iload_n 1, 1) := by decide +kernel
theorem dJ3_checkFromToIndex_8c36e_17 : decode cJ3_checkFromToIndex_8c36e 17 = .ok (.iload_n 2, 1) := by decide +kernel
theorem dJ3_checkFromToIndex_8c36e_18 : decode cJ3_checkFromToIndex_8c36e 18 = .ok (.invokestatic 99, 3) := by decide +kernel
theorem dJ3_checkFromToIndex_8c36e_21 : decode cJ3_checkFromToIndex_8c36e 21 = .ok (.athrow, 1) := by decide +kernel
theorem dJ3_checkFromToIndex_8c36e_22 : decode cJ3_checkFromToIndex_8c36e 22 = .ok (.iload_n 0, 1) := by decide +kernel
theorem dJ3_checkFromToIndex_8c36e_23 : decode cJ3_checkFromToIndex_8c36e 23 = .ok (.ireturn, 1) := by decide +kernel
set_option maxRecDepth 20000 in
theorem ggX3_init_X0_init : GoodIn wsX3_init wsX0_init := goodIn_r _ [16, 17, 2, 3, 8, 18, 19, 20, 21, 22, 23, 24, 25, 26, 27, 28, 29, 30, 31, 32, 33, 34, 35, 36, 37, 38, 39, 6, 40, 41, 42, 43, 44, 45, 46, 47, 48, 49, 50, 51, 52, 53, 54, 55, 56, 57, 58, 59, 60, 61, 62, 63, 64, 65, 66, 67, 68, 69, 70, 71, 72, 73, 74, 75, 76, 77, 78, 93, 94] (by decide +kernel) (by decide +kernel)
set_option maxRecDepth 20000 in
theorem gX3_init_X0_init : GoodIn wsX3_init (wsX0_init) := ggX3_init_X0_init
theorem dX3_init_0 : decode cX3_init 0 = .ok (.aload_n 0, 1) := by decide +kernel
theorem dX3_init_1 : decode cX3_init 1 = .ok (.invokespecial 3, 3) := by decide +kernel
theorem dX3_init_4 : decode cX3_init 4 = .ok (.aload_n 0, 1) := by decide +kernel
theorem dX3_init_5 : decode cX3_init 5 = .ok (.new 9, 3) := by decide +kernel
theorem dX3_init_8 : decode cX3_init 8 = .ok (.dup, 1) := by decide +kernel
theorem dX3_init_9 : decode cX3_init 9 = .ok (.sipush 250, 3) := by decide +kernel
theorem dX3_init_12 : decode cX3_init 12 = .ok (.invokespecial 11, 3) := by decide +kernel
theorem dX3_init_15 : decode cX3_init 15 = .ok (.putfield 14, 3) := by decide +kernel
theorem dX3_init_18 : decode cX3_init 18 = .ok (.aload_n 0, 1) := by decide +kernel
theorem dX3_init_19 : decode cX3_init 19 = .ok (.iconst 0, 1) := by decide +kernel
theorem dX3_init_20 : decode cX3_init 20 = .ok (.newarray .int, 2) := by decide +kernel
theorem dX3_init_22 : decode cX3_init 22 = .ok (.putfield 20, 3) := by decide +kernel
theorem dX3_init_25 : decode cX3_init 25 = .ok (.aload_n 0, 1) := by decide +kernel
theorem dX3_init_26 : decode cX3_init 26 = .ok (.sipush 250, 3) := by decide +kernel
theorem dX3_init_29 : decode cX3_init 29 = .ok (.newarray .int, 2) := by decide +kernel
theorem dX3_init_31 : decode cX3_init 31 = .ok (.putfield 24, 3) := by decide +kernel
theorem dX3_init_34 : decode cX3_init 34 = .ok (.aload_n 0, 1) := by decide +kernel
theorem dX3_init_35 : decode cX3_init 35 = .ok (.sipush 250, 3) := by decide +kernel
theorem dX3_init_38 : decode cX3_init 38 = .ok (.newarray .int, 2) := by decide +kernel
theorem dX3_init_40 : decode cX3_init 40 = .ok (.putfield 27, 3) := by decide +kernel
theorem dX3_init_43 : decode cX3_init 43 = .ok (.aload_n 0, 1) := by decide +kernel
theorem dX3_init_44 : decode cX3_init 44 = .ok (.sipush 250, 3) := by decide +kernel
theorem dX3_init_47 : decode cX3_init 47 = .ok (.newarray .int, 2) := by decide +kernel
theorem dX3_init_49 : decode cX3_init 49 = .ok (.putfield 30, 3) := by decide +kernel
theorem dX3_init_52 : decode cX3_init 52 = .ok (.aload_n 0, 1) := by decide +kernel
theorem dX3_init_53 : decode cX3_init 53 = .ok (.bipush 10, 2) := by decide +kernel
theorem dX3_init_55 : decode cX3_init 55 = .ok (.newarray .int, 2) := by decide +kernel
theorem dX3_init_57 : decode cX3_init 57 = .ok (.putfield 33, 3) := by decide +kernel
theorem dX3_init_60 : decode cX3_init 60 = .ok (.return_, 1) := by decide +kernel
set_option maxRecDepth 20000 in
theorem ggX3_read_X0_clear : GoodIn wsX3_read wsX0_clear := goodIn_r _ [17, 18, 19, 20, 21, 22, 3, 4, 5, 23, 24, 25, 26, 27, 28, 29, 30, 31, 32, 33, 34, 35, 36, 37, 38, 39, 40, 41, 42, 43, 44, 45, 46, 47, 48, 296, 297, 298, 299, 300, 301, 302, 303, 304, 305, 306, 307, 308, 309, 310, 311, 312] (by decide +kernel) (by decide +kernel)
set_option maxRecDepth 20000 in
theorem gX3_read_X0_clear : GoodIn wsX3_read (wsV RX3 58 RX0 yX0_clear wsX0_clear) := goodIn_app (goodIn_of _ (by decide +kernel)) ggX3_read_X0_clear
set_option maxRecDepth 20000 in
theorem ggX3_read_X3_advance : GoodIn wsX3_read wsX3_advance := goodIn_r _ [53, 12, 8, 7, 54, 6, 55, 56, 57, 52, 58, 59, 60, 61, 62, 1, 63, 64, 65, 66, 67, 68, 69, 70, 71, 72, 73, 74, 75, 76, 77, 78, 79, 80, 81, 82, 83, 84, 85, 86, 87, 88, 89, 90, 91, 92, 93, 94, 95, 96, 97, 98, 99, 100, 101, 102, 103, 104, 105, 106, 107, 108, 109, 110, 111, 112, 113, 114, 115, 116, 117, 118, 119, 120, 121, 122, 123, 124, 125, 126, 127, 128, 129, 130, 131, 132, 133, 134, 135, 136, 137, 138, 139, 24, 4, 25, 140, 3, 5, 141, 142, 143, 144, 145, 146, 147, 148, 149, 150, 151, 152, 153, 154, 155, 156, 157, 158, 159, 160, 161, 162, 163, 164, 165, 166, 167, 168, 169, 170, 171, 172, 173, 174, 175, 176, 177, 178, 179, 180, 181, 182, 282, 283, 284, 285, 286, 287, 288, 289, 290, 291, 292, 293, 294, 295] (by decide +kernel) (by decide +kernel)
set_option maxRecDepth 20000 in
theorem gX3_read_X3_advance : GoodIn wsX3_read (wsV RX3 61 RX3 yX3_advance wsX3_advance) := goodIn_app (goodIn_of _ (by decide +kernel)) ggX3_read_X3_advance
set_option maxRecDepth 20000 in
theorem ggX3_read_X3_readMemory : GoodIn wsX3_read wsX3_readMemory := goodIn_r _ [186, 70, 54, 11, 187, 188, 189, 52, 190, 12, 49, 50, 51, 53, 8, 7, 6, 55, 56, 57, 58, 59, 60, 61, 62, 1, 63, 64, 65, 66, 67, 68, 69, 71, 72, 73, 74, 75, 76, 77, 78, 79, 80, 81, 82, 83, 84, 85, 86, 87, 88, 89, 90, 91, 92, 93, 94, 95, 96, 97, 98, 99, 100, 101, 102, 103, 104, 105, 106, 107, 108, 109, 110, 111, 112, 113, 114, 115, 116, 117, 118, 119, 120, 121, 122, 123, 124, 125, 126, 127, 128, 129, 130, 131, 132, 133, 134, 135, 136, 137, 138, 139, 24, 4, 25, 140, 3, 5, 141, 142, 143, 144, 145, 146, 147, 148, 149, 150, 151, 152, 153, 154, 155, 156, 157, 158, 159, 160, 161, 162, 163, 164, 165, 166, 167, 168, 169, 170, 171, 172, 173, 174, 175, 176, 177, 178, 179, 180, 181, 182, 191, 192, 193, 194, 13, 14, 15, 16, 17, 18, 19, 20, 21, 22, 23, 26, 27, 28, 29, 30, 31, 32, 33, 34, 35, 36, 37, 38, 39, 40, 41, 42, 43, 44, 45, 46, 47, 48, 282, 283, 284, 285, 286, 287, 288, 289, 290, 291, 292, 293, 294, 295, 296, 297, 298, 299, 300, 301, 302, 303, 304, 305, 306, 307, 308, 309, 310, 311, 312] (by decide +kernel) (by decide +kernel)
set_option maxRecDepth 20000 in
theorem gX3_read_X3_readMemory : GoodIn wsX3_read (wsV RX3 67 RX3 yX3_readMemory wsX3_readMemory) := goodIn_app (goodIn_of _ (by decide +kernel)) ggX3_read_X3_readMemory
set_option maxRecDepth 20000 in
theorem ggX3_read_X3_readTree : GoodIn wsX3_read wsX3_readTree := goodIn_r _ [198, 12, 54, 8, 11, 199, 200, 201, 52, 202, 70, 10, 9, 203, 204, 205, 206, 207, 208, 209, 191, 192, 193, 194, 210, 211, 212, 213, 214, 215, 216, 16, 217, 27, 26, 218, 219, 220, 221, 30, 31, 18, 28, 222, 223, 224, 225, 226, 227, 228, 229, 230, 187, 188, 189, 190, 49, 50, 51, 53, 7, 6, 55, 56, 57, 58, 59, 60, 61, 62, 1, 63, 64, 65, 66, 67, 68, 69, 71, 72, 73, 74, 75, 76, 77, 78, 79, 80, 81, 82, 83, 84, 85, 86, 87, 88, 89, 90, 91, 92, 93, 94, 95, 96, 97, 98, 99, 100, 101, 102, 103, 104, 105, 106, 107, 108, 109, 110, 111, 112, 113, 114, 115, 116, 117, 118, 119, 120, 121, 122, 123, 124, 125, 126, 127, 128, 129, 130, 131, 132, 133, 134, 135, 136, 137, 138, 139, 24, 4, 25, 140, 3, 5, 141, 142, 143, 144, 145, 146, 147, 148, 149, 150, 151, 152, 153, 154, 155, 156, 157, 158, 159, 160, 161, 162, 163, 164, 165, 166, 167, 168, 169, 170, 171, 172, 173, 174, 175, 176, 177, 178, 179, 180, 181, 182, 231, 232, 233, 234, 235, 236, 237, 238, 239, 240, 241, 242, 19, 243, 244, 245, 246, 247, 248, 249, 250, 251, 252, 195, 196, 197, 253, 254, 255, 256, 21, 22, 257, 258, 259, 260, 261, 262, 42, 263, 45, 44, 282, 283, 284, 285, 286, 287, 288, 289, 290, 291, 292, 293, 294, 295, 296, 297, 298, 299, 300, 301, 302, 303, 304, 305, 306, 307, 308, 309, 310, 311, 312] (by decide +kernel) (by decide +kernel)
set_option maxRecDepth 20000 in
theorem gX3_read_X3_readTree : GoodIn wsX3_read (wsV RX3 70 RX3 yX3_readTree wsX3_readTree) := goodIn_app (goodIn_of _ (by decide +kernel)) ggX3_read_X3_readTree
set_option maxRecDepth 20000 in
theorem ggX3_read_X3_expect : GoodIn wsX3_read wsX3_expect := goodIn_r _ [190, 12, 54, 49, 50, 51, 52, 53, 8, 7, 6, 55, 56, 57, 58, 59, 60, 61, 62, 1, 63, 64, 65, 66, 67, 68, 69, 70, 71, 72, 73, 74, 75, 76, 77, 78, 79, 80, 81, 82, 83, 84, 85, 86, 87, 88, 89, 90, 91, 92, 93, 94, 95, 96, 97, 98, 99, 100, 101, 102, 103, 104, 105, 106, 107, 108, 109, 110, 111, 112, 113, 114, 115, 116, 117, 118, 119, 120, 121, 122, 123, 124, 125, 126, 127, 128, 129, 130, 131, 132, 133, 134, 135, 136, 137, 138, 139, 24, 4, 25, 140, 3, 5, 141, 142, 143, 144, 145, 146, 147, 148, 149, 150, 151, 152, 153, 154, 155, 156, 157, 158, 159, 160, 161, 162, 163, 164, 165, 166, 167, 168, 169, 170, 171, 172, 173, 174, 175, 176, 177, 178, 179, 180, 181, 182, 191, 192, 193, 194, 282, 283, 284, 285, 286, 287, 288, 289, 290, 291, 292, 293, 294, 295] (by decide +kernel) (by decide +kernel)
set_option maxRecDepth 20000 in
theorem gX3_read_X3_expect : GoodIn wsX3_read (wsV RX3 74 RX3 yX3_expect wsX3_expect) := goodIn_app (goodIn_of _ (by decide +kernel)) ggX3_read_X3_expect
set_option maxRecDepth 20000 in
theorem ggX3_read_X0_connect : GoodIn wsX3_read wsX0_connect := goodIn_r _ [256, 21, 22, 3, 4, 5, 18, 239, 240, 241, 16, 242, 19, 257, 258, 259, 260, 261, 262, 42, 263, 45, 44, 296, 297, 298, 299, 300, 301, 302, 303, 304, 305, 306, 307, 308, 309, 310, 311, 312] (by decide +kernel) (by decide +kernel)
set_option maxRecDepth 20000 in
theorem gX3_read_X0_connect : GoodIn wsX3_read (wsV RX3 77 RX0 yX0_connect wsX0_connect) := goodIn_app (goodIn_of _ (by decide +kernel)) ggX3_read_X0_connect
set_option maxRecDepth 20000 in
theorem ggX3_read_X3_endNames : GoodIn wsX3_read wsX3_endNames := goodIn_r _ [267, 9, 205, 6, 11, 204, 191, 192, 193, 52, 194, 8, 268, 269, 270, 16, 271, 19, 272, 273, 274, 275, 32, 276, 254, 255, 256, 21, 22, 3, 4, 5, 18, 239, 240, 241, 242, 257, 258, 259, 260, 261, 262, 42, 263, 45, 44, 277, 278, 279, 280, 33, 281, 282, 283, 284, 285, 286, 287, 288, 289, 290, 291, 292, 293, 294, 295, 296, 297, 298, 299, 300, 301, 302, 303, 304, 305, 306, 307, 308, 309, 310, 311, 312] (by decide +kernel) (by decide +kernel)
set_option maxRecDepth 20000 in
theorem gX3_read_X3_endNames : GoodIn wsX3_read (wsV RX3 81 RX3 yX3_endNames wsX3_endNames) := goodIn_app (goodIn_of _ (by decide +kernel)) ggX3_read_X3_endNames
theorem dX3_read_0 : decode cX3_read 0 = .ok (.aload_n 0, 1) := by decide +kernel
theorem dX3_read_1 : decode cX3_read 1 = .ok (.aload_n 1, 1) := by decide +kernel
theorem dX3_read_2 : decode cX3_read 2 = .ok (.putfield 20, 3) := by decide +kernel
theorem dX3_read_5 : decode cX3_read 5 = .ok (.aload_n 0, 1) := by decide +kernel
theorem dX3_read_6 : decode cX3_read 6 = .ok (.iload_n 2, 1) := by decide +kernel
theorem dX3_read_7 : decode cX3_read 7 = .ok (.aload_n 1, 1) := by decide +kernel
theorem dX3_read_8 : decode cX3_read 8 = .ok (.arraylength, 1) := by decide +kernel
theorem dX3_read_9 : decode cX3_read 9 = .ok (.invokestatic 36, 3) := by decide +kernel
theorem dX3_read_12 : decode cX3_read 12 = .ok (.putfield 42, 3) := by decide +kernel
theorem dX3_read_15 : decode cX3_read 15 = .ok (.aload_n 0, 1) := by decide +kernel
theorem dX3_read_16 : decode cX3_read 16 = .ok (.iconst 0, 1) := by decide +kernel
theorem dX3_read_17 : decode cX3_read 17 = .ok (.putfield 46, 3) := by decide +kernel
theorem dX3_read_20 : decode cX3_read 20 = .ok (.aload_n 0, 1) := by decide +kernel
theorem dX3_read_21 : decode cX3_read 21 = .ok (.iconst 0, 1) := by decide +kernel
theorem dX3_read_22 : decode cX3_read 22 = .ok (.putfield 49, 3) := by decide +kernel
theorem dX3_read_25 : decode cX3_read 25 = .ok (.aload_n 0, 1) := by decide +kernel
theorem dX3_read_26 : decode cX3_read 26 = .ok (.iconst 0, 1) := by decide +kernel
theorem dX3_read_27 : decode cX3_read 27 = .ok (.putfield 52, 3) := by decide +kernel
theorem dX3_read_30 : decode cX3_read 30 = .ok (.aload_n 0, 1) := by decide +kernel
theorem dX3_read_31 : decode cX3_read 31 = .ok (.iconst 0, 1) := by decide +kernel
theorem dX3_read_32 : decode cX3_read 32 = .ok (.putfield 55, 3) := by decide +kernel
theorem dX3_read_35 : decode cX3_read 35 = .ok (.aload_n 0, 1) := by decide +kernel
theorem dX3_read_36 : decode cX3_read 36 = .ok (.getfield 14, 3) := by decide +kernel
theorem dX3_read_39 : decode cX3_read 39 = .ok (.sipush 200, 3) := by decide +kernel
theorem dX3_read_42 : decode cX3_read 42 = .ok (.invokevirtual 58, 3) := by decide +kernel
theorem dX3_read_45 : decode cX3_read 45 = .ok (.aload_n 0, 1) := by decide +kernel
theorem dX3_read_46 : decode cX3_read 46 = .ok (.invokevirtual 61, 3) := by decide +kernel
theorem dX3_read_49 : decode cX3_read 49 = .ok (.aload_n 0, 1) := by decide +kernel
theorem dX3_read_50 : decode cX3_read 50 = .ok (.getfield 64, 3) := by decide +kernel
theorem dX3_read_53 : decode cX3_read 53 = .ok (.iconst 4, 1) := by decide +kernel
theorem dX3_read_54 : decode cX3_read 54 = .ok (.if_icmp .ne 7, 3) := by decide +kernel
theorem dX3_read_57 : decode cX3_read 57 = .ok (.aload_n 0, 1) := by decide +kernel
theorem dX3_read_58 : decode cX3_read 58 = .ok (.invokevirtual 67, 3) := by decide +kernel
theorem dX3_read_61 : decode cX3_read 61 = .ok (.iconst 0, 1) := by decide +kernel
theorem dX3_read_62 : decode cX3_read 62 = .ok (.istore_n 3, 1) := by decide +kernel
theorem dX3_read_63 : decode cX3_read 63 = .ok (.iload_n 3, 1) := by decide +kernel
theorem dX3_read_64 : decode cX3_read 64 = .ok (.sipush 500, 3) := by decide +kernel
theorem dX3_read_67 : decode cX3_read 67 = .ok (.if_icmp .ge 64, 3) := by decide +kernel
theorem dX3_read_70 : decode cX3_read 70 = .ok (.aload_n 0, 1) := by decide +kernel
theorem dX3_read_71 : decode cX3_read 71 = .ok (.getfield 64, 3) := by decide +kernel
theorem dX3_read_74 : decode cX3_read 74 = .ok (.ifCond .eq 57, 3) := by decide +kernel
theorem dX3_read_77 : decode cX3_read 77 = .ok (.aload_n 0, 1) := by decide +kernel
theorem dX3_read_78 : decode cX3_read 78 = .ok (.getfield 49, 3) := by decide +kernel
theorem dX3_read_81 : decode cX3_read 81 = .ok (.ifCond .ne 50, 3) := by decide +kernel
theorem dX3_read_84 : decode cX3_read 84 = .ok (.aload_n 0, 1) := by decide +kernel
theorem dX3_read_85 : decode cX3_read 85 = .ok (.iconst 0, 1) := by decide +kernel
theorem dX3_read_86 : decode cX3_read 86 = .ok (.invokevirtual 70, 3) := by decide +kernel
theorem dX3_read_89 : decode cX3_read 89 = .ok (.istore 4, 2) := by decide +kernel
theorem dX3_read_91 : decode cX3_read 91 = .ok (.aload_n 0, 1) := by decide +kernel
theorem dX3_read_92 : decode cX3_read 92 = .ok (.bipush 126, 2) := by decide +kernel
theorem dX3_read_94 : decode cX3_read 94 = .ok (.invokevirtual 74, 3) := by decide +kernel
theorem dX3_read_97 : decode cX3_read 97 = .ok (.aload_n 0, 1) := by decide +kernel
theorem dX3_read_98 : decode cX3_read 98 = .ok (.invokevirtual 61, 3) := by decide +kernel
theorem dX3_read_101 : decode cX3_read 101 = .ok (.aload_n 0, 1) := by decide +kernel
theorem dX3_read_102 : decode cX3_read 102 = .ok (.getfield 14, 3) := by decide +kernel
theorem dX3_read_105 : decode cX3_read 105 = .ok (.iload 4, 2) := by decide +kernel
theorem dX3_read_107 : decode cX3_read 107 = .ok (.aload_n 0, 1) := by decide +kernel
theorem dX3_read_108 : decode cX3_read 108 = .ok (.iconst 0, 1) := by decide +kernel
theorem dX3_read_109 : decode cX3_read 109 = .ok (.invokevirtual 70, 3) := by decide +kernel
theorem dX3_read_112 : decode cX3_read 112 = .ok (.invokevirtual 77, 3) := by decide +kernel
theorem dX3_read_115 : decode cX3_read 115 = .ok (.aload_n 0, 1) := by decide +kernel
theorem dX3_read_116 : decode cX3_read 116 = .ok (.bipush 59, 2) := by decide +kernel
theorem dX3_read_118 : decode cX3_read 118 = .ok (.invokevirtual 74, 3) := by decide +kernel
theorem dX3_read_121 : decode cX3_read 121 = .ok (.aload_n 0, 1) := by decide +kernel
theorem dX3_read_122 : decode cX3_read 122 = .ok (.invokevirtual 61, 3) := by decide +kernel
theorem dX3_read_125 : decode cX3_read 125 = .ok (.iinc 3 1, 3) := by decide +kernel
theorem dX3_read_128 : decode cX3_read 128 = .ok (.goto (-65), 3) := by decide +kernel
theorem dX3_read_131 : decode cX3_read 131 = .ok (.aload_n 0, 1) := by decide +kernel
theorem dX3_read_132 : decode cX3_read 132 = .ok (.getfield 49, 3) := by decide +kernel
theorem dX3_read_135 : decode cX3_read 135 = .ok (.ifCond .ne 7, 3) := by decide +kernel
theorem dX3_read_138 : decode cX3_read 138 = .ok (.aload_n 0, 1) := by decide +kernel
theorem dX3_read_139 : decode cX3_read 139 = .ok (.invokevirtual 81, 3) := by decide +kernel
theorem dX3_read_142 : decode cX3_read 142 = .ok (.aload_n 0, 1) := by decide +kernel
theorem dX3_read_143 : decode cX3_read 143 = .ok (.getfield 49, 3) := by decide +kernel
theorem dX3_read_146 : decode cX3_read 146 = .ok (.ireturn, 1) := by decide +kernel
theorem dX3_refuse_0 : decode cX3_refuse 0 = .ok (.aload_n 0, 1) := by decide +kernel
theorem dX3_refuse_1 : decode cX3_refuse 1 = .ok (.getfield 49, 3) := by decide +kernel
theorem dX3_refuse_4 : decode cX3_refuse 4 = .ok (.ifCond .ne 16, 3) := by decide +kernel
theorem dX3_refuse_7 : decode cX3_refuse 7 = .ok (.aload_n 0, 1) := by decide +kernel
theorem dX3_refuse_8 : decode cX3_refuse 8 = .ok (.bipush (-2), 2) := by decide +kernel
theorem dX3_refuse_10 : decode cX3_refuse 10 = .ok (.bipush 8, 2) := by decide +kernel
theorem dX3_refuse_12 : decode cX3_refuse 12 = .ok (.iload_n 1, 1) := by decide +kernel
theorem dX3_refuse_13 : decode cX3_refuse 13 = .ok (.imul, 1) := by decide +kernel
theorem dX3_refuse_14 : decode cX3_refuse 14 = .ok (.iload_n 2, 1) := by decide +kernel
theorem dX3_refuse_15 : decode cX3_refuse 15 = .ok (.iadd, 1) := by decide +kernel
theorem dX3_refuse_16 : decode cX3_refuse 16 = .ok (.isub, 1) := by decide +kernel
theorem dX3_refuse_17 : decode cX3_refuse 17 = .ok (.putfield 49, 3) := by decide +kernel
theorem dX3_refuse_20 : decode cX3_refuse 20 = .ok (.return_, 1) := by decide +kernel
set_option maxRecDepth 20000 in
theorem ggX3_readMemory_X3_expect : GoodIn wsX3_readMemory wsX3_expect := goodIn_r _ [8, 9, 2, 10, 11, 12, 7, 13, 14, 15, 16, 17, 18, 19, 20, 21, 22, 23, 24, 25, 26, 27, 28, 29, 30, 31, 32, 1, 33, 34, 35, 36, 37, 38, 39, 40, 41, 42, 43, 44, 45, 46, 47, 48, 49, 50, 51, 52, 53, 54, 55, 56, 57, 58, 59, 60, 61, 62, 63, 64, 65, 66, 67, 68, 69, 70, 71, 72, 73, 74, 75, 76, 77, 78, 79, 80, 81, 82, 83, 84, 85, 86, 87, 88, 89, 90, 91, 92, 93, 94, 95, 96, 97, 98, 99, 100, 101, 102, 103, 104, 105, 106, 107, 108, 109, 110, 111, 112, 113, 114, 115, 116, 117, 118, 119, 120, 121, 122, 123, 124, 125, 126, 127, 128, 129, 130, 131, 132, 133, 134, 135, 136, 137, 138, 139, 140, 141, 142, 143, 144, 145, 146, 147, 148, 149, 150, 151, 152, 153, 188, 189, 190, 191, 192, 193, 194, 195, 196, 197, 198, 199, 200, 201] (by decide +kernel) (by decide +kernel)
set_option maxRecDepth 20000 in
theorem gX3_readMemory_X3_expect : GoodIn wsX3_readMemory (wsV RX3 74 RX3 yX3_expect wsX3_expect) := goodIn_app (goodIn_of _ (by decide +kernel)) ggX3_readMemory_X3_expect
set_option maxRecDepth 20000 in
theorem ggX3_readMemory_X3_refuse : GoodIn wsX3_readMemory wsX3_refuse := goodIn_r _ [153, 14, 188, 189, 190, 191, 192, 193, 194, 195, 196, 197, 198, 199, 200, 201] (by decide +kernel) (by decide +kernel)
set_option maxRecDepth 20000 in
theorem gX3_readMemory_X3_refuse : GoodIn wsX3_readMemory (wsV RX3 90 RX3 yX3_refuse wsX3_refuse) := goodIn_app (goodIn_of _ (by decide +kernel)) ggX3_readMemory_X3_refuse
set_option maxRecDepth 20000 in
theorem ggX3_readMemory_X0_clear : GoodIn wsX3_readMemory wsX0_clear := goodIn_r _ [158, 159, 160, 161, 162, 163, 106, 103, 107, 164, 102, 104, 165, 166, 167, 168, 169, 170, 171, 172, 173, 174, 175, 176, 177, 178, 179, 180, 181, 182, 183, 184, 185, 186, 187, 202, 203, 204, 205, 206, 207, 208, 209, 210, 211, 212, 213, 214, 215, 216, 217, 218] (by decide +kernel) (by decide +kernel)
set_option maxRecDepth 20000 in
theorem gX3_readMemory_X0_clear : GoodIn wsX3_readMemory (wsV RX3 58 RX0 yX0_clear wsX0_clear) := goodIn_app (goodIn_of _ (by decide +kernel)) ggX3_readMemory_X0_clear
set_option maxRecDepth 20000 in
theorem ggX3_readMemory_X3_advance : GoodIn wsX3_readMemory wsX3_advance := goodIn_r _ [13, 9, 14, 15, 2, 16, 17, 18, 19, 7, 20, 21, 22, 23, 24, 25, 26, 27, 28, 29, 30, 31, 32, 1, 33, 34, 35, 36, 37, 38, 39, 40, 41, 42, 43, 44, 45, 46, 47, 48, 49, 50, 51, 52, 53, 54, 55, 56, 57, 58, 59, 60, 61, 62, 63, 64, 65, 66, 67, 68, 69, 70, 71, 72, 73, 74, 75, 76, 77, 78, 79, 80, 81, 82, 83, 84, 85, 86, 87, 88, 89, 90, 91, 92, 93, 94, 95, 96, 97, 98, 99, 100, 101, 102, 103, 104, 105, 106, 107, 108, 109, 110, 111, 112, 113, 114, 115, 116, 117, 118, 119, 120, 121, 122, 123, 124, 125, 126, 127, 128, 129, 130, 131, 132, 133, 134, 135, 136, 137, 138, 139, 140, 141, 142, 143, 144, 145, 146, 147, 148, 149, 188, 189, 190, 191, 192, 193, 194, 195, 196, 197, 198, 199, 200, 201] (by decide +kernel) (by decide +kernel)
set_option maxRecDepth 20000 in
theorem gX3_readMemory_X3_advance : GoodIn wsX3_readMemory (wsV RX3 61 RX3 yX3_advance wsX3_advance) := goodIn_app (goodIn_of _ (by decide +kernel)) ggX3_readMemory_X3_advance
theorem dX3_readMemory_0 : decode cX3_readMemory 0 = .ok (.aload_n 0, 1) := by decide +kernel
theorem dX3_readMemory_1 : decode cX3_readMemory 1 = .ok (.iconst 3, 1) := by decide +kernel
theorem dX3_readMemory_2 : decode cX3_readMemory 2 = .ok (.invokevirtual 74, 3) := by decide +kernel
theorem dX3_readMemory_5 : decode cX3_readMemory 5 = .ok (.aload_n 0, 1) := by decide +kernel
theorem dX3_readMemory_6 : decode cX3_readMemory 6 = .ok (.getfield 84, 3) := by decide +kernel
theorem dX3_readMemory_9 : decode cX3_readMemory 9 = .ok (.bipush 8, 2) := by decide +kernel
theorem dX3_readMemory_11 : decode cX3_readMemory 11 = .ok (.if_icmp .lt 13, 3) := by decide +kernel
theorem dX3_readMemory_14 : decode cX3_readMemory 14 = .ok (.aload_n 0, 1) := by decide +kernel
theorem dX3_readMemory_15 : decode cX3_readMemory 15 = .ok (.getfield 84, 3) := by decide +kernel
theorem dX3_readMemory_18 : decode cX3_readMemory 18 = .ok (.sipush 300, 3) := by decide +kernel
theorem dX3_readMemory_21 : decode cX3_readMemory 21 = .ok (.if_icmp .le 12, 3) := by decide +kernel
theorem dX3_readMemory_24 : decode cX3_readMemory 24 = .ok (.aload_n 0, 1) := by decide +kernel
theorem dX3_readMemory_25 : decode cX3_readMemory 25 = .ok (.aload_n 0, 1) := by decide +kernel
theorem dX3_readMemory_26 : decode cX3_readMemory 26 = .ok (.getfield 87, 3) := by decide +kernel
theorem dX3_readMemory_29 : decode cX3_readMemory 29 = .ok (.iconst 3, 1) := by decide +kernel
theorem dX3_readMemory_30 : decode cX3_readMemory 30 = .ok (.invokevirtual 90, 3) := by decide +kernel
theorem dX3_readMemory_33 : decode cX3_readMemory 33 = .ok (.aload_n 0, 1) := by decide +kernel
theorem dX3_readMemory_34 : decode cX3_readMemory 34 = .ok (.getfield 14, 3) := by decide +kernel
theorem dX3_readMemory_37 : decode cX3_readMemory 37 = .ok (.aload_n 0, 1) := by decide +kernel
theorem dX3_readMemory_38 : decode cX3_readMemory 38 = .ok (.getfield 84, 3) := by decide +kernel
theorem dX3_readMemory_41 : decode cX3_readMemory 41 = .ok (.invokevirtual 58, 3) := by decide +kernel
theorem dX3_readMemory_44 : decode cX3_readMemory 44 = .ok (.aload_n 0, 1) := by decide +kernel
theorem dX3_readMemory_45 : decode cX3_readMemory 45 = .ok (.bipush 59, 2) := by decide +kernel
theorem dX3_readMemory_47 : decode cX3_readMemory 47 = .ok (.invokevirtual 74, 3) := by decide +kernel
theorem dX3_readMemory_50 : decode cX3_readMemory 50 = .ok (.aload_n 0, 1) := by decide +kernel
theorem dX3_readMemory_51 : decode cX3_readMemory 51 = .ok (.invokevirtual 61, 3) := by decide +kernel
theorem dX3_readMemory_54 : decode cX3_readMemory 54 = .ok (.return_, 1) := by decide +kernel
set_option maxRecDepth 20000 in
theorem ggX3_readTree_X3_readName : GoodIn wsX3_readTree wsX3_readName := goodIn_r _ [9, 10, 11, 12, 13, 14, 15, 2, 16, 17, 18, 8, 19, 20, 21, 22, 23, 3, 237, 238, 239, 240, 241, 242, 243, 244, 245, 246, 247, 248, 249, 250] (by decide +kernel) (by decide +kernel)
set_option maxRecDepth 20000 in
theorem gX3_readTree_X3_readName : GoodIn wsX3_readTree (wsV RX3 93 RX3 yX3_readName wsX3_readName) := goodIn_app (goodIn_of _ (by decide +kernel)) ggX3_readTree_X3_readName
set_option maxRecDepth 20000 in
theorem ggX3_readTree_X3_makeNode : GoodIn wsX3_readTree wsX3_makeNode := goodIn_r _ [27, 4, 2, 28, 29, 30, 31, 32, 33, 34, 20, 21, 22, 8, 23, 3, 35, 36, 37, 38, 39, 40, 41, 42, 43, 44, 45, 46, 47, 237, 238, 239, 240, 241, 242, 243, 244, 245, 246, 247, 248, 249, 250, 251, 252, 253, 254, 255, 256, 257, 258, 259, 260, 261, 262, 263, 264, 265] (by decide +kernel) (by decide +kernel)
set_option maxRecDepth 20000 in
theorem gX3_readTree_X3_makeNode : GoodIn wsX3_readTree (wsV RX3 97 RX3 yX3_makeNode wsX3_makeNode) := goodIn_app (goodIn_of _ (by decide +kernel)) ggX3_readTree_X3_makeNode
set_option maxRecDepth 20000 in
theorem ggX3_readTree_X3_readNumber : GoodIn wsX3_readTree wsX3_readNumber := goodIn_r _ [51, 2, 10, 4, 3, 52, 53, 54, 8, 55, 1, 56, 57, 58, 59, 60, 61, 62, 63, 64, 65, 66, 67, 68, 69, 70, 71, 72, 73, 74, 75, 76, 77, 78, 79, 80, 81, 82, 83, 84, 85, 86, 87, 88, 89, 90, 91, 92, 93, 94, 95, 96, 97, 98, 99, 100, 101, 102, 103, 104, 105, 106, 107, 108, 109, 110, 111, 112, 113, 114, 115, 116, 117, 118, 119, 120, 121, 122, 123, 124, 125, 126, 127, 128, 129, 130, 131, 132, 133, 134, 135, 136, 137, 138, 139, 140, 141, 142, 143, 144, 145, 146, 147, 148, 149, 150, 151, 152, 153, 154, 155, 156, 157, 158, 159, 160, 161, 162, 163, 164, 165, 166, 167, 168, 169, 170, 171, 172, 173, 174, 175, 176, 177, 178, 179, 180, 181, 182, 183, 184, 185, 186, 187, 188, 189, 190, 191, 192, 193, 194, 20, 21, 22, 23, 195, 196, 31, 197, 28, 29, 30, 32, 33, 34, 198, 199, 200, 201, 202, 36, 37, 38, 39, 40, 41, 42, 43, 44, 45, 46, 47, 203, 204, 205, 206, 207, 237, 238, 239, 240, 241, 242, 243, 244, 245, 246, 247, 248, 249, 250, 251, 252, 253, 254, 255, 256, 257, 258, 259, 260, 261, 262, 263, 264, 265] (by decide +kernel) (by decide +kernel)
set_option maxRecDepth 20000 in
theorem gX3_readTree_X3_readNumber : GoodIn wsX3_readTree (wsV RX3 100 RX3 yX3_readNumber wsX3_readNumber) := goodIn_app (goodIn_of _ (by decide +kernel)) ggX3_readTree_X3_readNumber
set_option maxRecDepth 20000 in
theorem ggX3_readTree_X3_readList : GoodIn wsX3_readTree wsX3_readList := goodIn_r _ [211, 2, 1, 10, 212, 4, 3, 56, 57, 58, 8, 59, 60, 61, 62, 63, 64, 65, 66, 67, 68, 69, 70, 71, 72, 73, 74, 75, 76, 77, 78, 79, 80, 81, 82, 83, 84, 85, 86, 87, 88, 89, 90, 91, 92, 93, 94, 95, 96, 97, 98, 99, 100, 101, 102, 103, 104, 105, 106, 107, 108, 109, 110, 111, 112, 113, 114, 115, 116, 117, 118, 119, 120, 121, 122, 123, 124, 125, 126, 127, 128, 129, 130, 131, 132, 133, 134, 135, 136, 137, 138, 139, 140, 141, 142, 143, 144, 145, 146, 147, 148, 149, 150, 151, 152, 153, 154, 155, 156, 157, 158, 159, 160, 161, 162, 163, 164, 165, 166, 167, 168, 169, 170, 171, 172, 173, 174, 175, 176, 177, 178, 179, 180, 181, 182, 183, 184, 185, 186, 187, 188, 189, 190, 191, 192, 193, 194, 20, 21, 22, 23, 195, 196, 31, 197, 28, 29, 30, 32, 33, 34, 213, 214, 215, 216, 202, 36, 37, 38, 39, 40, 41, 42, 43, 44, 45, 46, 47, 203, 204, 205, 206, 207, 217, 199, 200, 201, 237, 238, 239, 240, 241, 242, 243, 244, 245, 246, 247, 248, 249, 250, 251, 252, 253, 254, 255, 256, 257, 258, 259, 260, 261, 262, 263, 264, 265] (by decide +kernel) (by decide +kernel)
set_option maxRecDepth 20000 in
theorem gX3_readTree_X3_readList : GoodIn wsX3_readTree (wsV RX3 103 RX3 yX3_readList wsX3_readList) := goodIn_app (goodIn_of _ (by decide +kernel)) ggX3_readTree_X3_readList
set_option maxRecDepth 20000 in
theorem ggX3_readTree_X3_refuse : GoodIn wsX3_readTree wsX3_refuse := goodIn_r _ [23, 3, 237, 238, 239, 240, 241, 242, 243, 244, 245, 246, 247, 248, 249, 250] (by decide +kernel) (by decide +kernel)
set_option maxRecDepth 20000 in
theorem gX3_readTree_X3_refuse : GoodIn wsX3_readTree (wsV RX3 90 RX3 yX3_refuse wsX3_refuse) := goodIn_app (goodIn_of _ (by decide +kernel)) ggX3_readTree_X3_refuse
set_option maxRecDepth 20000 in
theorem ggX3_readTree_X3_advance : GoodIn wsX3_readTree wsX3_advance := goodIn_r _ [59, 1, 3, 60, 2, 61, 62, 63, 64, 8, 65, 66, 67, 68, 69, 70, 71, 72, 73, 74, 75, 76, 77, 10, 78, 79, 80, 81, 82, 83, 84, 85, 86, 87, 88, 89, 90, 91, 92, 93, 94, 95, 96, 97, 98, 99, 100, 101, 102, 103, 104, 105, 106, 107, 108, 109, 110, 111, 112, 113, 114, 115, 116, 117, 118, 119, 120, 121, 122, 123, 124, 125, 126, 127, 128, 129, 130, 131, 132, 133, 134, 135, 136, 137, 138, 139, 140, 141, 142, 143, 144, 145, 146, 147, 148, 149, 150, 151, 152, 153, 154, 155, 156, 157, 158, 159, 160, 161, 162, 163, 164, 165, 166, 167, 168, 169, 170, 171, 172, 173, 174, 175, 176, 177, 178, 179, 180, 181, 182, 183, 184, 185, 186, 187, 188, 189, 190, 191, 192, 193, 194, 237, 238, 239, 240, 241, 242, 243, 244, 245, 246, 247, 248, 249, 250] (by decide +kernel) (by decide +kernel)
set_option maxRecDepth 20000 in
theorem gX3_readTree_X3_advance : GoodIn wsX3_readTree (wsV RX3 61 RX3 yX3_advance wsX3_advance) := goodIn_app (goodIn_of _ (by decide +kernel)) ggX3_readTree_X3_advance
set_option maxRecDepth 20000 in
theorem ggX3_readTree_X3_readTree : GoodIn wsX3_readTree wsX3_readTree := goodIn_r _ [0, 1, 2, 3, 4, 5, 6, 7, 8, 9, 10, 11, 12, 13, 14, 15, 16, 17, 18, 19, 20, 21, 22, 23, 24, 25, 26, 27, 28, 29, 30, 31, 32, 33, 34, 35, 36, 37, 38, 39, 40, 41, 42, 43, 44, 45, 46, 47, 48, 49, 50, 51, 52, 53, 54, 55, 56, 57, 58, 59, 60, 61, 62, 63, 64, 65, 66, 67, 68, 69, 70, 71, 72, 73, 74, 75, 76, 77, 78, 79, 80, 81, 82, 83, 84, 85, 86, 87, 88, 89, 90, 91, 92, 93, 94, 95, 96, 97, 98, 99, 100, 101, 102, 103, 104, 105, 106, 107, 108, 109, 110, 111, 112, 113, 114, 115, 116, 117, 118, 119, 120, 121, 122, 123, 124, 125, 126, 127, 128, 129, 130, 131, 132, 133, 134, 135, 136, 137, 138, 139, 140, 141, 142, 143, 144, 145, 146, 147, 148, 149, 150, 151, 152, 153, 154, 155, 156, 157, 158, 159, 160, 161, 162, 163, 164, 165, 166, 167, 168, 169, 170, 171, 172, 173, 174, 175, 176, 177, 178, 179, 180, 181, 182, 183, 184, 185, 186, 187, 188, 189, 190, 191, 192, 193, 194, 195, 196, 197, 198, 199, 200, 201, 202, 203, 204, 205, 206, 207, 208, 209, 210, 211, 212, 213, 214, 215, 216, 217, 218, 219, 220, 221, 222, 223, 224, 225, 226, 227, 228, 229, 230, 231, 232, 233, 234, 235, 236, 237, 238, 239, 240, 241, 242, 243, 244, 245, 246, 247, 248, 249, 250, 251, 252, 253, 254, 255, 256, 257, 258, 259, 260, 261, 262, 263, 264, 265, 266, 267] (by decide +kernel) (by decide +kernel)
set_option maxRecDepth 20000 in
theorem gX3_readTree_X3_readTree : GoodIn wsX3_readTree (wsV RX3 70 RX3 yX3_readTree wsX3_readTree) := goodIn_app (goodIn_of _ (by decide +kernel)) ggX3_readTree_X3_readTree
set_option maxRecDepth 20000 in
theorem ggX3_readTree_X0_connect : GoodIn wsX3_readTree wsX0_connect := goodIn_r _ [224, 225, 226, 151, 148, 152, 41, 203, 204, 205, 31, 206, 207, 227, 228, 229, 230, 231, 232, 233, 234, 235, 236, 251, 252, 253, 254, 255, 256, 257, 258, 259, 260, 261, 262, 263, 264, 265, 266, 267] (by decide +kernel) (by decide +kernel)
set_option maxRecDepth 20000 in
theorem gX3_readTree_X0_connect : GoodIn wsX3_readTree (wsV RX3 77 RX0 yX0_connect wsX0_connect) := goodIn_app (goodIn_of _ (by decide +kernel)) ggX3_readTree_X0_connect
set_option maxRecDepth 20000 in
theorem ggX3_readTree_X3_expect : GoodIn wsX3_readTree wsX3_expect := goodIn_r _ [55, 1, 2, 56, 57, 58, 8, 59, 3, 60, 61, 62, 63, 64, 65, 66, 67, 68, 69, 70, 71, 72, 73, 74, 75, 76, 77, 10, 78, 79, 80, 81, 82, 83, 84, 85, 86, 87, 88, 89, 90, 91, 92, 93, 94, 95, 96, 97, 98, 99, 100, 101, 102, 103, 104, 105, 106, 107, 108, 109, 110, 111, 112, 113, 114, 115, 116, 117, 118, 119, 120, 121, 122, 123, 124, 125, 126, 127, 128, 129, 130, 131, 132, 133, 134, 135, 136, 137, 138, 139, 140, 141, 142, 143, 144, 145, 146, 147, 148, 149, 150, 151, 152, 153, 154, 155, 156, 157, 158, 159, 160, 161, 162, 163, 164, 165, 166, 167, 168, 169, 170, 171, 172, 173, 174, 175, 176, 177, 178, 179, 180, 181, 182, 183, 184, 185, 186, 187, 188, 189, 190, 191, 192, 193, 194, 20, 21, 22, 23, 237, 238, 239, 240, 241, 242, 243, 244, 245, 246, 247, 248, 249, 250] (by decide +kernel) (by decide +kernel)
set_option maxRecDepth 20000 in
theorem gX3_readTree_X3_expect : GoodIn wsX3_readTree (wsV RX3 74 RX3 yX3_expect wsX3_expect) := goodIn_app (goodIn_of _ (by decide +kernel)) ggX3_readTree_X3_expect
theorem dX3_readTree_0 : decode cX3_readTree 0 = .ok (.aload_n 0, 1) := by decide +kernel
theorem dX3_readTree_1 : decode cX3_readTree 1 = .ok (.getfield 64, 3) := by decide +kernel
theorem dX3_readTree_4 : decode cX3_readTree 4 = .ok (.lookupswitch 84 #[(2, 60), (35, 71), (40, 81), (42, 65), (60, 76), (91, 81)], 60) := by decide +kernel
theorem dX3_readTree_64 : decode cX3_readTree 64 = .ok (.aload_n 0, 1) := by decide +kernel
theorem dX3_readTree_65 : decode cX3_readTree 65 = .ok (.invokevirtual 93, 3) := by decide +kernel
theorem dX3_readTree_68 : decode cX3_readTree 68 = .ok (.ireturn, 1) := by decide +kernel
theorem dX3_readTree_69 : decode cX3_readTree 69 = .ok (.aload_n 0, 1) := by decide +kernel
theorem dX3_readTree_70 : decode cX3_readTree 70 = .ok (.iconst 0, 1) := by decide +kernel
theorem dX3_readTree_71 : decode cX3_readTree 71 = .ok (.invokevirtual 97, 3) := by decide +kernel
theorem dX3_readTree_74 : decode cX3_readTree 74 = .ok (.ireturn, 1) := by decide +kernel
theorem dX3_readTree_75 : decode cX3_readTree 75 = .ok (.aload_n 0, 1) := by decide +kernel
theorem dX3_readTree_76 : decode cX3_readTree 76 = .ok (.invokevirtual 100, 3) := by decide +kernel
theorem dX3_readTree_79 : decode cX3_readTree 79 = .ok (.ireturn, 1) := by decide +kernel
theorem dX3_readTree_80 : decode cX3_readTree 80 = .ok (.aload_n 0, 1) := by decide +kernel
theorem dX3_readTree_81 : decode cX3_readTree 81 = .ok (.invokevirtual 103, 3) := by decide +kernel
theorem dX3_readTree_84 : decode cX3_readTree 84 = .ok (.ireturn, 1) := by decide +kernel
theorem dX3_readTree_85 : decode cX3_readTree 85 = .ok (.goto 14, 3) := by decide +kernel
theorem dX3_readTree_88 : decode cX3_readTree 88 = .ok (.aload_n 0, 1) := by decide +kernel
theorem dX3_readTree_89 : decode cX3_readTree 89 = .ok (.aload_n 0, 1) := by decide +kernel
theorem dX3_readTree_90 : decode cX3_readTree 90 = .ok (.getfield 87, 3) := by decide +kernel
theorem dX3_readTree_93 : decode cX3_readTree 93 = .ok (.iconst 1, 1) := by decide +kernel
theorem dX3_readTree_94 : decode cX3_readTree 94 = .ok (.invokevirtual 90, 3) := by decide +kernel
theorem dX3_readTree_97 : decode cX3_readTree 97 = .ok (.iconst (-1), 1) := by decide +kernel
theorem dX3_readTree_98 : decode cX3_readTree 98 = .ok (.ireturn, 1) := by decide +kernel
theorem dX3_readTree_99 : decode cX3_readTree 99 = .ok (.iload_n 1, 1) := by decide +kernel
theorem dX3_readTree_100 : decode cX3_readTree 100 = .ok (.bipush 20, 2) := by decide +kernel
theorem dX3_readTree_102 : decode cX3_readTree 102 = .ok (.if_icmp .lt 14, 3) := by decide +kernel
theorem dX3_readTree_105 : decode cX3_readTree 105 = .ok (.aload_n 0, 1) := by decide +kernel
theorem dX3_readTree_106 : decode cX3_readTree 106 = .ok (.aload_n 0, 1) := by decide +kernel
theorem dX3_readTree_107 : decode cX3_readTree 107 = .ok (.getfield 87, 3) := by decide +kernel
theorem dX3_readTree_110 : decode cX3_readTree 110 = .ok (.iconst 4, 1) := by decide +kernel
theorem dX3_readTree_111 : decode cX3_readTree 111 = .ok (.invokevirtual 90, 3) := by decide +kernel
theorem dX3_readTree_114 : decode cX3_readTree 114 = .ok (.iconst (-1), 1) := by decide +kernel
theorem dX3_readTree_115 : decode cX3_readTree 115 = .ok (.ireturn, 1) := by decide +kernel
theorem dX3_readTree_116 : decode cX3_readTree 116 = .ok (.aload_n 0, 1) := by decide +kernel
theorem dX3_readTree_117 : decode cX3_readTree 117 = .ok (.getfield 64, 3) := by decide +kernel
theorem dX3_readTree_120 : decode cX3_readTree 120 = .ok (.bipush 40, 2) := by decide +kernel
theorem dX3_readTree_122 : decode cX3_readTree 122 = .ok (.if_icmp .ne 8, 3) := by decide +kernel
theorem dX3_readTree_125 : decode cX3_readTree 125 = .ok (.bipush 41, 2) := by decide +kernel
theorem dX3_readTree_127 : decode cX3_readTree 127 = .ok (.goto 5, 3) := by decide +kernel
theorem dX3_readTree_130 : decode cX3_readTree 130 = .ok (.bipush 93, 2) := by decide +kernel
theorem dX3_readTree_132 : decode cX3_readTree 132 = .ok (.istore_n 2, 1) := by decide +kernel
theorem dX3_readTree_133 : decode cX3_readTree 133 = .ok (.aload_n 0, 1) := by decide +kernel
theorem dX3_readTree_134 : decode cX3_readTree 134 = .ok (.aload_n 0, 1) := by decide +kernel
theorem dX3_readTree_135 : decode cX3_readTree 135 = .ok (.getfield 64, 3) := by decide +kernel
theorem dX3_readTree_138 : decode cX3_readTree 138 = .ok (.bipush 40, 2) := by decide +kernel
theorem dX3_readTree_140 : decode cX3_readTree 140 = .ok (.if_icmp .ne 7, 3) := by decide +kernel
theorem dX3_readTree_143 : decode cX3_readTree 143 = .ok (.iconst 1, 1) := by decide +kernel
theorem dX3_readTree_144 : decode cX3_readTree 144 = .ok (.goto 4, 3) := by decide +kernel
theorem dX3_readTree_147 : decode cX3_readTree 147 = .ok (.iconst 2, 1) := by decide +kernel
theorem dX3_readTree_148 : decode cX3_readTree 148 = .ok (.invokevirtual 97, 3) := by decide +kernel
theorem dX3_readTree_151 : decode cX3_readTree 151 = .ok (.istore_n 3, 1) := by decide +kernel
theorem dX3_readTree_152 : decode cX3_readTree 152 = .ok (.iconst 1, 1) := by decide +kernel
theorem dX3_readTree_153 : decode cX3_readTree 153 = .ok (.istore 4, 2) := by decide +kernel
theorem dX3_readTree_155 : decode cX3_readTree 155 = .ok (.iload 4, 2) := by decide +kernel
theorem dX3_readTree_157 : decode cX3_readTree 157 = .ok (.iconst 2, 1) := by decide +kernel
theorem dX3_readTree_158 : decode cX3_readTree 158 = .ok (.if_icmp .gt 38, 3) := by decide +kernel
theorem dX3_readTree_161 : decode cX3_readTree 161 = .ok (.aload_n 0, 1) := by decide +kernel
theorem dX3_readTree_162 : decode cX3_readTree 162 = .ok (.getfield 49, 3) := by decide +kernel
theorem dX3_readTree_165 : decode cX3_readTree 165 = .ok (.ifCond .ne 31, 3) := by decide +kernel
theorem dX3_readTree_168 : decode cX3_readTree 168 = .ok (.aload_n 0, 1) := by decide +kernel
theorem dX3_readTree_169 : decode cX3_readTree 169 = .ok (.invokevirtual 61, 3) := by decide +kernel
theorem dX3_readTree_172 : decode cX3_readTree 172 = .ok (.aload_n 0, 1) := by decide +kernel
theorem dX3_readTree_173 : decode cX3_readTree 173 = .ok (.getfield 14, 3) := by decide +kernel
theorem dX3_readTree_176 : decode cX3_readTree 176 = .ok (.iload_n 3, 1) := by decide +kernel
theorem dX3_readTree_177 : decode cX3_readTree 177 = .ok (.iload 4, 2) := by decide +kernel
theorem dX3_readTree_179 : decode cX3_readTree 179 = .ok (.iadd, 1) := by decide +kernel
theorem dX3_readTree_180 : decode cX3_readTree 180 = .ok (.aload_n 0, 1) := by decide +kernel
theorem dX3_readTree_181 : decode cX3_readTree 181 = .ok (.iload_n 1, 1) := by decide +kernel
theorem dX3_readTree_182 : decode cX3_readTree 182 = .ok (.iconst 1, 1) := by decide +kernel
theorem dX3_readTree_183 : decode cX3_readTree 183 = .ok (.iadd, 1) := by decide +kernel
theorem dX3_readTree_184 : decode cX3_readTree 184 = .ok (.invokevirtual 70, 3) := by decide +kernel
theorem dX3_readTree_187 : decode cX3_readTree 187 = .ok (.invokevirtual 77, 3) := by decide +kernel
theorem dX3_readTree_190 : decode cX3_readTree 190 = .ok (.iinc 4 1, 3) := by decide +kernel
theorem dX3_readTree_193 : decode cX3_readTree 193 = .ok (.goto (-38), 3) := by decide +kernel
theorem dX3_readTree_196 : decode cX3_readTree 196 = .ok (.aload_n 0, 1) := by decide +kernel
theorem dX3_readTree_197 : decode cX3_readTree 197 = .ok (.iload_n 2, 1) := by decide +kernel
theorem dX3_readTree_198 : decode cX3_readTree 198 = .ok (.invokevirtual 74, 3) := by decide +kernel
theorem dX3_readTree_201 : decode cX3_readTree 201 = .ok (.iload_n 3, 1) := by decide +kernel
theorem dX3_readTree_202 : decode cX3_readTree 202 = .ok (.ireturn, 1) := by decide +kernel
set_option maxRecDepth 20000 in
theorem ggX3_makeNode_X0_hasRoom : GoodIn wsX3_makeNode wsX0_hasRoom := goodIn_r _ [7, 8, 9, 43, 44, 45, 46, 47, 48, 49, 50, 51, 52, 53, 54, 55, 56, 57] (by decide +kernel) (by decide +kernel)
set_option maxRecDepth 20000 in
theorem gX3_makeNode_X0_hasRoom : GoodIn wsX3_makeNode (wsV RX3 106 RX0 yX0_hasRoom wsX0_hasRoom) := goodIn_app (goodIn_of _ (by decide +kernel)) ggX3_makeNode_X0_hasRoom
set_option maxRecDepth 20000 in
theorem ggX3_makeNode_X3_refuse : GoodIn wsX3_makeNode wsX3_refuse := goodIn_r _ [14, 15, 29, 30, 31, 32, 33, 34, 35, 36, 37, 38, 39, 40, 41, 42] (by decide +kernel) (by decide +kernel)
set_option maxRecDepth 20000 in
theorem gX3_makeNode_X3_refuse : GoodIn wsX3_makeNode (wsV RX3 90 RX3 yX3_refuse wsX3_refuse) := goodIn_app (goodIn_of _ (by decide +kernel)) ggX3_makeNode_X3_refuse
set_option maxRecDepth 20000 in
theorem ggX3_makeNode_X0_make : GoodIn wsX3_makeNode wsX0_make := goodIn_r _ [19, 20, 21, 22, 8, 23, 24, 25, 26, 6, 27, 9, 28, 43, 44, 45, 46, 47, 48, 49, 50, 51, 52, 53, 54, 55, 56, 57] (by decide +kernel) (by decide +kernel)
set_option maxRecDepth 20000 in
theorem gX3_makeNode_X0_make : GoodIn wsX3_makeNode (wsV RX3 110 RX0 yX0_make wsX0_make) := goodIn_app (goodIn_of _ (by decide +kernel)) ggX3_makeNode_X0_make
theorem dX3_makeNode_0 : decode cX3_makeNode 0 = .ok (.aload_n 0, 1) := by decide +kernel
theorem dX3_makeNode_1 : decode cX3_makeNode 1 = .ok (.getfield 14, 3) := by decide +kernel
theorem dX3_makeNode_4 : decode cX3_makeNode 4 = .ok (.iconst 1, 1) := by decide +kernel
theorem dX3_makeNode_5 : decode cX3_makeNode 5 = .ok (.invokevirtual 106, 3) := by decide +kernel
theorem dX3_makeNode_8 : decode cX3_makeNode 8 = .ok (.ifCond .ne 14, 3) := by decide +kernel
theorem dX3_makeNode_11 : decode cX3_makeNode 11 = .ok (.aload_n 0, 1) := by decide +kernel
theorem dX3_makeNode_12 : decode cX3_makeNode 12 = .ok (.aload_n 0, 1) := by decide +kernel
theorem dX3_makeNode_13 : decode cX3_makeNode 13 = .ok (.getfield 87, 3) := by decide +kernel
theorem dX3_makeNode_16 : decode cX3_makeNode 16 = .ok (.iconst 5, 1) := by decide +kernel
theorem dX3_makeNode_17 : decode cX3_makeNode 17 = .ok (.invokevirtual 90, 3) := by decide +kernel
theorem dX3_makeNode_20 : decode cX3_makeNode 20 = .ok (.iconst (-1), 1) := by decide +kernel
theorem dX3_makeNode_21 : decode cX3_makeNode 21 = .ok (.ireturn, 1) := by decide +kernel
theorem dX3_makeNode_22 : decode cX3_makeNode 22 = .ok (.iconst 3, 1) := by decide +kernel
theorem dX3_makeNode_23 : decode cX3_makeNode 23 = .ok (.aload_n 0, 1) := by decide +kernel
theorem dX3_makeNode_24 : decode cX3_makeNode 24 = .ok (.getfield 14, 3) := by decide +kernel
theorem dX3_makeNode_27 : decode cX3_makeNode 27 = .ok (.iload_n 1, 1) := by decide +kernel
theorem dX3_makeNode_28 : decode cX3_makeNode 28 = .ok (.invokevirtual 110, 3) := by decide +kernel
theorem dX3_makeNode_31 : decode cX3_makeNode 31 = .ok (.imul, 1) := by decide +kernel
theorem dX3_makeNode_32 : decode cX3_makeNode 32 = .ok (.ireturn, 1) := by decide +kernel
set_option maxRecDepth 20000 in
theorem ggX3_readNumber_X3_expect : GoodIn wsX3_readNumber wsX3_expect := goodIn_r _ [9, 10, 1, 11, 12, 13, 8, 14, 4, 15, 16, 17, 18, 19, 20, 21, 22, 23, 24, 25, 26, 27, 28, 29, 30, 31, 32, 2, 33, 34, 35, 36, 37, 38, 39, 40, 41, 42, 43, 44, 45, 46, 47, 48, 49, 50, 51, 52, 53, 54, 55, 56, 57, 58, 59, 60, 61, 62, 63, 64, 65, 66, 67, 68, 69, 70, 71, 72, 73, 74, 75, 76, 77, 78, 79, 80, 81, 82, 83, 84, 85, 86, 87, 88, 89, 90, 91, 92, 93, 94, 95, 96, 97, 98, 99, 100, 101, 102, 103, 104, 105, 106, 107, 108, 109, 110, 111, 112, 113, 114, 115, 116, 117, 118, 119, 120, 121, 122, 123, 124, 125, 126, 127, 128, 129, 130, 131, 132, 133, 134, 135, 136, 137, 138, 139, 140, 141, 142, 143, 144, 145, 146, 147, 148, 149, 150, 151, 152, 153, 186, 187, 188, 189, 190, 191, 192, 193, 194, 195, 196, 197, 198, 199] (by decide +kernel) (by decide +kernel)
set_option maxRecDepth 20000 in
theorem gX3_readNumber_X3_expect : GoodIn wsX3_readNumber (wsV RX3 74 RX3 yX3_expect wsX3_expect) := goodIn_app (goodIn_of _ (by decide +kernel)) ggX3_readNumber_X3_expect
set_option maxRecDepth 20000 in
theorem ggX3_readNumber_X3_refuse : GoodIn wsX3_readNumber wsX3_refuse := goodIn_r _ [153, 4, 186, 187, 188, 189, 190, 191, 192, 193, 194, 195, 196, 197, 198, 199] (by decide +kernel) (by decide +kernel)
set_option maxRecDepth 20000 in
theorem gX3_readNumber_X3_refuse : GoodIn wsX3_readNumber (wsV RX3 90 RX3 yX3_refuse wsX3_refuse) := goodIn_app (goodIn_of _ (by decide +kernel)) ggX3_readNumber_X3_refuse
set_option maxRecDepth 20000 in
theorem ggX3_readNumber_X0_numberSize : GoodIn wsX3_readNumber wsX0_numberSize := goodIn_r _ [157] (by decide +kernel) (by decide +kernel)
set_option maxRecDepth 20000 in
theorem gX3_readNumber_X0_numberSize : GoodIn wsX3_readNumber (va_wsS RX3 113 yX0_numberSize wsX0_numberSize) := goodIn_app (goodIn_of _ (by decide +kernel)) ggX3_readNumber_X0_numberSize
set_option maxRecDepth 20000 in
theorem ggX3_readNumber_X0_hasRoom : GoodIn wsX3_readNumber wsX0_hasRoom := goodIn_r _ [161, 162, 163, 200, 201, 202, 203, 204, 205, 206, 207, 208, 209, 210, 211, 212, 213, 214] (by decide +kernel) (by decide +kernel)
set_option maxRecDepth 20000 in
theorem gX3_readNumber_X0_hasRoom : GoodIn wsX3_readNumber (wsV RX3 106 RX0 yX0_hasRoom wsX0_hasRoom) := goodIn_app (goodIn_of _ (by decide +kernel)) ggX3_readNumber_X0_hasRoom
set_option maxRecDepth 20000 in
theorem ggX3_readNumber_X0_makeNumber : GoodIn wsX3_readNumber wsX0_makeNumber := goodIn_r _ [167, 168, 169, 170, 156, 171, 172, 173, 174, 162, 175, 176, 177, 178, 179, 163, 180, 181, 182, 183, 184, 185, 200, 201, 202, 203, 204, 205, 206, 207, 208, 209, 210, 211, 212, 213, 214] (by decide +kernel) (by decide +kernel)
set_option maxRecDepth 20000 in
theorem gX3_readNumber_X0_makeNumber : GoodIn wsX3_readNumber (wsV RX3 116 RX0 yX0_makeNumber wsX0_makeNumber) := goodIn_app (goodIn_of _ (by decide +kernel)) ggX3_readNumber_X0_makeNumber
theorem dX3_readNumber_0 : decode cX3_readNumber 0 = .ok (.aload_n 0, 1) := by decide +kernel
theorem dX3_readNumber_1 : decode cX3_readNumber 1 = .ok (.getfield 87, 3) := by decide +kernel
theorem dX3_readNumber_4 : decode cX3_readNumber 4 = .ok (.istore_n 1, 1) := by decide +kernel
theorem dX3_readNumber_5 : decode cX3_readNumber 5 = .ok (.aload_n 0, 1) := by decide +kernel
theorem dX3_readNumber_6 : decode cX3_readNumber 6 = .ok (.iconst 3, 1) := by decide +kernel
theorem dX3_readNumber_7 : decode cX3_readNumber 7 = .ok (.invokevirtual 74, 3) := by decide +kernel
theorem dX3_readNumber_10 : decode cX3_readNumber 10 = .ok (.aload_n 0, 1) := by decide +kernel
theorem dX3_readNumber_11 : decode cX3_readNumber 11 = .ok (.getfield 84, 3) := by decide +kernel
theorem dX3_readNumber_14 : decode cX3_readNumber 14 = .ok (.bipush 20, 2) := by decide +kernel
theorem dX3_readNumber_16 : decode cX3_readNumber 16 = .ok (.if_icmp .le 12, 3) := by decide +kernel
theorem dX3_readNumber_19 : decode cX3_readNumber 19 = .ok (.aload_n 0, 1) := by decide +kernel
theorem dX3_readNumber_20 : decode cX3_readNumber 20 = .ok (.aload_n 0, 1) := by decide +kernel
theorem dX3_readNumber_21 : decode cX3_readNumber 21 = .ok (.getfield 87, 3) := by decide +kernel
theorem dX3_readNumber_24 : decode cX3_readNumber 24 = .ok (.iconst 3, 1) := by decide +kernel
theorem dX3_readNumber_25 : decode cX3_readNumber 25 = .ok (.invokevirtual 90, 3) := by decide +kernel
theorem dX3_readNumber_28 : decode cX3_readNumber 28 = .ok (.aload_n 0, 1) := by decide +kernel
theorem dX3_readNumber_29 : decode cX3_readNumber 29 = .ok (.getfield 14, 3) := by decide +kernel
theorem dX3_readNumber_32 : decode cX3_readNumber 32 = .ok (.aload_n 0, 1) := by decide +kernel
theorem dX3_readNumber_33 : decode cX3_readNumber 33 = .ok (.getfield 84, 3) := by decide +kernel
theorem dX3_readNumber_36 : decode cX3_readNumber 36 = .ok (.invokestatic 113, 3) := by decide +kernel
theorem dX3_readNumber_39 : decode cX3_readNumber 39 = .ok (.invokevirtual 106, 3) := by decide +kernel
theorem dX3_readNumber_42 : decode cX3_readNumber 42 = .ok (.ifCond .ne 9, 3) := by decide +kernel
theorem dX3_readNumber_45 : decode cX3_readNumber 45 = .ok (.aload_n 0, 1) := by decide +kernel
theorem dX3_readNumber_46 : decode cX3_readNumber 46 = .ok (.iload_n 1, 1) := by decide +kernel
theorem dX3_readNumber_47 : decode cX3_readNumber 47 = .ok (.iconst 5, 1) := by decide +kernel
theorem dX3_readNumber_48 : decode cX3_readNumber 48 = .ok (.invokevirtual 90, 3) := by decide +kernel
theorem dX3_readNumber_51 : decode cX3_readNumber 51 = .ok (.aload_n 0, 1) := by decide +kernel
theorem dX3_readNumber_52 : decode cX3_readNumber 52 = .ok (.getfield 49, 3) := by decide +kernel
theorem dX3_readNumber_55 : decode cX3_readNumber 55 = .ok (.ifCond .ne 17, 3) := by decide +kernel
theorem dX3_readNumber_58 : decode cX3_readNumber 58 = .ok (.aload_n 0, 1) := by decide +kernel
theorem dX3_readNumber_59 : decode cX3_readNumber 59 = .ok (.getfield 14, 3) := by decide +kernel
theorem dX3_readNumber_62 : decode cX3_readNumber 62 = .ok (.aload_n 0, 1) := by decide +kernel
theorem dX3_readNumber_63 : decode cX3_readNumber 63 = .ok (.getfield 84, 3) := by decide +kernel
theorem dX3_readNumber_66 : decode cX3_readNumber 66 = .ok (.invokevirtual 116, 3) := by decide +kernel
theorem dX3_readNumber_69 : decode cX3_readNumber 69 = .ok (.goto 4, 3) := by decide +kernel
theorem dX3_readNumber_72 : decode cX3_readNumber 72 = .ok (.iconst (-1), 1) := by decide +kernel
theorem dX3_readNumber_73 : decode cX3_readNumber 73 = .ok (.ireturn, 1) := by decide +kernel
set_option maxRecDepth 20000 in
theorem ggX3_readList_X3_advance : GoodIn wsX3_readList wsX3_advance := goodIn_r _ [11, 2, 6, 12, 1, 13, 14, 15, 16, 10, 17, 18, 19, 20, 21, 22, 23, 24, 25, 26, 27, 28, 29, 3, 30, 31, 32, 33, 34, 35, 36, 37, 38, 39, 40, 41, 42, 43, 44, 45, 46, 47, 48, 49, 50, 51, 52, 53, 54, 55, 56, 57, 58, 59, 60, 61, 62, 63, 64, 65, 66, 67, 68, 69, 70, 71, 72, 73, 74, 75, 76, 77, 78, 79, 80, 81, 82, 83, 84, 85, 86, 87, 88, 89, 90, 91, 92, 93, 94, 95, 96, 97, 98, 99, 100, 101, 102, 103, 104, 105, 106, 107, 108, 109, 110, 111, 112, 113, 114, 115, 116, 117, 118, 119, 120, 121, 122, 123, 124, 125, 126, 127, 128, 129, 130, 131, 132, 133, 134, 135, 136, 137, 138, 139, 140, 141, 142, 143, 144, 145, 146, 187, 188, 189, 190, 191, 192, 193, 194, 195, 196, 197, 198, 199, 200] (by decide +kernel) (by decide +kernel)
set_option maxRecDepth 20000 in
theorem gX3_readList_X3_advance : GoodIn wsX3_readList (wsV RX3 61 RX3 yX3_advance wsX3_advance) := goodIn_app (goodIn_of _ (by decide +kernel)) ggX3_readList_X3_advance
set_option maxRecDepth 20000 in
theorem ggX3_readList_X3_refuse : GoodIn wsX3_readList wsX3_refuse := goodIn_r _ [150, 6, 187, 188, 189, 190, 191, 192, 193, 194, 195, 196, 197, 198, 199, 200] (by decide +kernel) (by decide +kernel)
set_option maxRecDepth 20000 in
theorem gX3_readList_X3_refuse : GoodIn wsX3_readList (wsV RX3 90 RX3 yX3_refuse wsX3_refuse) := goodIn_app (goodIn_of _ (by decide +kernel)) ggX3_readList_X3_refuse
set_option maxRecDepth 20000 in
theorem ggX3_readList_X0_numberSize : GoodIn wsX3_readList wsX0_numberSize := goodIn_r _ [154] (by decide +kernel) (by decide +kernel)
set_option maxRecDepth 20000 in
theorem gX3_readList_X0_numberSize : GoodIn wsX3_readList (va_wsS RX3 113 yX0_numberSize wsX0_numberSize) := goodIn_app (goodIn_of _ (by decide +kernel)) ggX3_readList_X0_numberSize
set_option maxRecDepth 20000 in
theorem ggX3_readList_X0_hasRoom : GoodIn wsX3_readList wsX0_hasRoom := goodIn_r _ [158, 159, 160, 201, 202, 203, 204, 205, 206, 207, 208, 209, 210, 211, 212, 213, 214, 215] (by decide +kernel) (by decide +kernel)
set_option maxRecDepth 20000 in
theorem gX3_readList_X0_hasRoom : GoodIn wsX3_readList (wsV RX3 106 RX0 yX0_hasRoom wsX0_hasRoom) := goodIn_app (goodIn_of _ (by decide +kernel)) ggX3_readList_X0_hasRoom
set_option maxRecDepth 20000 in
theorem ggX3_readList_X0_makeList : GoodIn wsX3_readList wsX0_makeList := goodIn_r _ [164, 165, 166, 167, 153, 168, 169, 170, 171, 159, 172, 173, 174, 175, 176, 160, 177, 178, 179, 180, 181, 182, 183, 184, 185, 186, 201, 202, 203, 204, 205, 206, 207, 208, 209, 210, 211, 212, 213, 214, 215] (by decide +kernel) (by decide +kernel)
set_option maxRecDepth 20000 in
theorem gX3_readList_X0_makeList : GoodIn wsX3_readList (wsV RX3 119 RX0 yX0_makeList wsX0_makeList) := goodIn_app (goodIn_of _ (by decide +kernel)) ggX3_readList_X0_makeList
theorem dX3_readList_0 : decode cX3_readList 0 = .ok (.aload_n 0, 1) := by decide +kernel
theorem dX3_readList_1 : decode cX3_readList 1 = .ok (.getfield 87, 3) := by decide +kernel
theorem dX3_readList_4 : decode cX3_readList 4 = .ok (.istore_n 1, 1) := by decide +kernel
theorem dX3_readList_5 : decode cX3_readList 5 = .ok (.iconst 0, 1) := by decide +kernel
theorem dX3_readList_6 : decode cX3_readList 6 = .ok (.istore_n 2, 1) := by decide +kernel
theorem dX3_readList_7 : decode cX3_readList 7 = .ok (.iconst 1, 1) := by decide +kernel
theorem dX3_readList_8 : decode cX3_readList 8 = .ok (.istore_n 3, 1) := by decide +kernel
theorem dX3_readList_9 : decode cX3_readList 9 = .ok (.aload_n 0, 1) := by decide +kernel
theorem dX3_readList_10 : decode cX3_readList 10 = .ok (.invokevirtual 61, 3) := by decide +kernel
theorem dX3_readList_13 : decode cX3_readList 13 = .ok (.iconst 0, 1) := by decide +kernel
theorem dX3_readList_14 : decode cX3_readList 14 = .ok (.istore 4, 2) := by decide +kernel
theorem dX3_readList_16 : decode cX3_readList 16 = .ok (.iload 4, 2) := by decide +kernel
theorem dX3_readList_18 : decode cX3_readList 18 = .ok (.bipush 10, 2) := by decide +kernel
theorem dX3_readList_20 : decode cX3_readList 20 = .ok (.if_icmp .gt 85, 3) := by decide +kernel
theorem dX3_readList_23 : decode cX3_readList 23 = .ok (.aload_n 0, 1) := by decide +kernel
theorem dX3_readList_24 : decode cX3_readList 24 = .ok (.getfield 64, 3) := by decide +kernel
theorem dX3_readList_27 : decode cX3_readList 27 = .ok (.iconst 3, 1) := by decide +kernel
theorem dX3_readList_28 : decode cX3_readList 28 = .ok (.if_icmp .ne 77, 3) := by decide +kernel
theorem dX3_readList_31 : decode cX3_readList 31 = .ok (.aload_n 0, 1) := by decide +kernel
theorem dX3_readList_32 : decode cX3_readList 32 = .ok (.getfield 84, 3) := by decide +kernel
theorem dX3_readList_35 : decode cX3_readList 35 = .ok (.bipush 9, 2) := by decide +kernel
theorem dX3_readList_37 : decode cX3_readList 37 = .ok (.if_icmp .le 15, 3) := by decide +kernel
theorem dX3_readList_40 : decode cX3_readList 40 = .ok (.aload_n 0, 1) := by decide +kernel
theorem dX3_readList_41 : decode cX3_readList 41 = .ok (.aload_n 0, 1) := by decide +kernel
theorem dX3_readList_42 : decode cX3_readList 42 = .ok (.getfield 87, 3) := by decide +kernel
theorem dX3_readList_45 : decode cX3_readList 45 = .ok (.iconst 3, 1) := by decide +kernel
theorem dX3_readList_46 : decode cX3_readList 46 = .ok (.invokevirtual 90, 3) := by decide +kernel
theorem dX3_readList_49 : decode cX3_readList 49 = .ok (.goto 46, 3) := by decide +kernel
theorem dX3_readList_52 : decode cX3_readList 52 = .ok (.iload_n 2, 1) := by decide +kernel
theorem dX3_readList_53 : decode cX3_readList 53 = .ok (.bipush 10, 2) := by decide +kernel
theorem dX3_readList_55 : decode cX3_readList 55 = .ok (.if_icmp .lt 15, 3) := by decide +kernel
theorem dX3_readList_58 : decode cX3_readList 58 = .ok (.aload_n 0, 1) := by decide +kernel
theorem dX3_readList_59 : decode cX3_readList 59 = .ok (.aload_n 0, 1) := by decide +kernel
theorem dX3_readList_60 : decode cX3_readList 60 = .ok (.getfield 87, 3) := by decide +kernel
theorem dX3_readList_63 : decode cX3_readList 63 = .ok (.iconst 4, 1) := by decide +kernel
theorem dX3_readList_64 : decode cX3_readList 64 = .ok (.invokevirtual 90, 3) := by decide +kernel
theorem dX3_readList_67 : decode cX3_readList 67 = .ok (.goto 28, 3) := by decide +kernel
theorem dX3_readList_70 : decode cX3_readList 70 = .ok (.aload_n 0, 1) := by decide +kernel
theorem dX3_readList_71 : decode cX3_readList 71 = .ok (.getfield 33, 3) := by decide +kernel
theorem dX3_readList_74 : decode cX3_readList 74 = .ok (.iload_n 2, 1) := by decide +kernel
theorem dX3_readList_75 : decode cX3_readList 75 = .ok (.aload_n 0, 1) := by decide +kernel
theorem dX3_readList_76 : decode cX3_readList 76 = .ok (.getfield 84, 3) := by decide +kernel
theorem dX3_readList_79 : decode cX3_readList 79 = .ok (.iastore, 1) := by decide +kernel
theorem dX3_readList_80 : decode cX3_readList 80 = .ok (.iinc 2 1, 3) := by decide +kernel
theorem dX3_readList_83 : decode cX3_readList 83 = .ok (.iload_n 3, 1) := by decide +kernel
theorem dX3_readList_84 : decode cX3_readList 84 = .ok (.iconst 1, 1) := by decide +kernel
theorem dX3_readList_85 : decode cX3_readList 85 = .ok (.aload_n 0, 1) := by decide +kernel
theorem dX3_readList_86 : decode cX3_readList 86 = .ok (.getfield 84, 3) := by decide +kernel
theorem dX3_readList_89 : decode cX3_readList 89 = .ok (.invokestatic 113, 3) := by decide +kernel
theorem dX3_readList_92 : decode cX3_readList 92 = .ok (.iadd, 1) := by decide +kernel
theorem dX3_readList_93 : decode cX3_readList 93 = .ok (.iadd, 1) := by decide +kernel
theorem dX3_readList_94 : decode cX3_readList 94 = .ok (.istore_n 3, 1) := by decide +kernel
theorem dX3_readList_95 : decode cX3_readList 95 = .ok (.aload_n 0, 1) := by decide +kernel
theorem dX3_readList_96 : decode cX3_readList 96 = .ok (.invokevirtual 61, 3) := by decide +kernel
theorem dX3_readList_99 : decode cX3_readList 99 = .ok (.iinc 4 1, 3) := by decide +kernel
theorem dX3_readList_102 : decode cX3_readList 102 = .ok (.goto (-86), 3) := by decide +kernel
theorem dX3_readList_105 : decode cX3_readList 105 = .ok (.aload_n 0, 1) := by decide +kernel
theorem dX3_readList_106 : decode cX3_readList 106 = .ok (.getfield 64, 3) := by decide +kernel
theorem dX3_readList_109 : decode cX3_readList 109 = .ok (.bipush 62, 2) := by decide +kernel
theorem dX3_readList_111 : decode cX3_readList 111 = .ok (.if_icmp .eq 12, 3) := by decide +kernel
theorem dX3_readList_114 : decode cX3_readList 114 = .ok (.aload_n 0, 1) := by decide +kernel
theorem dX3_readList_115 : decode cX3_readList 115 = .ok (.aload_n 0, 1) := by decide +kernel
theorem dX3_readList_116 : decode cX3_readList 116 = .ok (.getfield 87, 3) := by decide +kernel
theorem dX3_readList_119 : decode cX3_readList 119 = .ok (.iconst 1, 1) := by decide +kernel
theorem dX3_readList_120 : decode cX3_readList 120 = .ok (.invokevirtual 90, 3) := by decide +kernel
theorem dX3_readList_123 : decode cX3_readList 123 = .ok (.aload_n 0, 1) := by decide +kernel
theorem dX3_readList_124 : decode cX3_readList 124 = .ok (.getfield 14, 3) := by decide +kernel
theorem dX3_readList_127 : decode cX3_readList 127 = .ok (.iload_n 3, 1) := by decide +kernel
theorem dX3_readList_128 : decode cX3_readList 128 = .ok (.invokevirtual 106, 3) := by decide +kernel
theorem dX3_readList_131 : decode cX3_readList 131 = .ok (.ifCond .ne 9, 3) := by decide +kernel
theorem dX3_readList_134 : decode cX3_readList 134 = .ok (.aload_n 0, 1) := by decide +kernel
theorem dX3_readList_135 : decode cX3_readList 135 = .ok (.iload_n 1, 1) := by decide +kernel
theorem dX3_readList_136 : decode cX3_readList 136 = .ok (.iconst 5, 1) := by decide +kernel
theorem dX3_readList_137 : decode cX3_readList 137 = .ok (.invokevirtual 90, 3) := by decide +kernel
theorem dX3_readList_140 : decode cX3_readList 140 = .ok (.aload_n 0, 1) := by decide +kernel
theorem dX3_readList_141 : decode cX3_readList 141 = .ok (.getfield 49, 3) := by decide +kernel
theorem dX3_readList_144 : decode cX3_readList 144 = .ok (.ifCond .ne 18, 3) := by decide +kernel
theorem dX3_readList_147 : decode cX3_readList 147 = .ok (.aload_n 0, 1) := by decide +kernel
theorem dX3_readList_148 : decode cX3_readList 148 = .ok (.getfield 14, 3) := by decide +kernel
theorem dX3_readList_151 : decode cX3_readList 151 = .ok (.aload_n 0, 1) := by decide +kernel
theorem dX3_readList_152 : decode cX3_readList 152 = .ok (.getfield 33, 3) := by decide +kernel
theorem dX3_readList_155 : decode cX3_readList 155 = .ok (.iload_n 2, 1) := by decide +kernel
theorem dX3_readList_156 : decode cX3_readList 156 = .ok (.invokevirtual 119, 3) := by decide +kernel
theorem dX3_readList_159 : decode cX3_readList 159 = .ok (.goto 4, 3) := by decide +kernel
theorem dX3_readList_162 : decode cX3_readList 162 = .ok (.iconst (-1), 1) := by decide +kernel
theorem dX3_readList_163 : decode cX3_readList 163 = .ok (.ireturn, 1) := by decide +kernel
set_option maxRecDepth 20000 in
theorem ggX3_readName_X3_indexOfName : GoodIn wsX3_readName wsX3_indexOfName := goodIn_r _ [12, 3, 4, 18, 19, 20, 21, 22, 23, 24, 25, 26, 27, 28, 29, 30, 31] (by decide +kernel) (by decide +kernel)
set_option maxRecDepth 20000 in
theorem gX3_readName_X3_indexOfName : GoodIn wsX3_readName (wsV RX3 123 RX3 yX3_indexOfName wsX3_indexOfName) := goodIn_app (goodIn_of _ (by decide +kernel)) ggX3_readName_X3_indexOfName
set_option maxRecDepth 20000 in
theorem ggX3_readName_X3_refuse : GoodIn wsX3_readName wsX3_refuse := goodIn_r _ [16, 17, 18, 19, 20, 21, 22, 23, 24, 25, 26, 27, 28, 29, 30, 31] (by decide +kernel) (by decide +kernel)
set_option maxRecDepth 20000 in
theorem gX3_readName_X3_refuse : GoodIn wsX3_readName (wsV RX3 90 RX3 yX3_refuse wsX3_refuse) := goodIn_app (goodIn_of _ (by decide +kernel)) ggX3_readName_X3_refuse
theorem dX3_readName_0 : decode cX3_readName 0 = .ok (.aload_n 0, 1) := by decide +kernel
theorem dX3_readName_1 : decode cX3_readName 1 = .ok (.aload_n 0, 1) := by decide +kernel
theorem dX3_readName_2 : decode cX3_readName 2 = .ok (.getfield 84, 3) := by decide +kernel
theorem dX3_readName_5 : decode cX3_readName 5 = .ok (.invokevirtual 123, 3) := by decide +kernel
theorem dX3_readName_8 : decode cX3_readName 8 = .ok (.istore_n 1, 1) := by decide +kernel
theorem dX3_readName_9 : decode cX3_readName 9 = .ok (.sipush 1016, 3) := by decide +kernel
theorem dX3_readName_12 : decode cX3_readName 12 = .ok (.aload_n 0, 1) := by decide +kernel
theorem dX3_readName_13 : decode cX3_readName 13 = .ok (.getfield 55, 3) := by decide +kernel
theorem dX3_readName_16 : decode cX3_readName 16 = .ok (.iadd, 1) := by decide +kernel
theorem dX3_readName_17 : decode cX3_readName 17 = .ok (.istore_n 2, 1) := by decide +kernel
theorem dX3_readName_18 : decode cX3_readName 18 = .ok (.aload_n 0, 1) := by decide +kernel
theorem dX3_readName_19 : decode cX3_readName 19 = .ok (.dup, 1) := by decide +kernel
theorem dX3_readName_20 : decode cX3_readName 20 = .ok (.getfield 55, 3) := by decide +kernel
theorem dX3_readName_23 : decode cX3_readName 23 = .ok (.iconst 1, 1) := by decide +kernel
theorem dX3_readName_24 : decode cX3_readName 24 = .ok (.iadd, 1) := by decide +kernel
theorem dX3_readName_25 : decode cX3_readName 25 = .ok (.putfield 55, 3) := by decide +kernel
theorem dX3_readName_28 : decode cX3_readName 28 = .ok (.iload_n 1, 1) := by decide +kernel
theorem dX3_readName_29 : decode cX3_readName 29 = .ok (.sipush 250, 3) := by decide +kernel
theorem dX3_readName_32 : decode cX3_readName 32 = .ok (.if_icmp .lt 5, 3) := by decide +kernel
theorem dX3_readName_35 : decode cX3_readName 35 = .ok (.iconst (-1), 1) := by decide +kernel
theorem dX3_readName_36 : decode cX3_readName 36 = .ok (.ireturn, 1) := by decide +kernel
theorem dX3_readName_37 : decode cX3_readName 37 = .ok (.iload_n 1, 1) := by decide +kernel
theorem dX3_readName_38 : decode cX3_readName 38 = .ok (.aload_n 0, 1) := by decide +kernel
theorem dX3_readName_39 : decode cX3_readName 39 = .ok (.getfield 52, 3) := by decide +kernel
theorem dX3_readName_42 : decode cX3_readName 42 = .ok (.if_icmp .ne 40, 3) := by decide +kernel
theorem dX3_readName_45 : decode cX3_readName 45 = .ok (.aload_n 0, 1) := by decide +kernel
theorem dX3_readName_46 : decode cX3_readName 46 = .ok (.getfield 24, 3) := by decide +kernel
theorem dX3_readName_49 : decode cX3_readName 49 = .ok (.iload_n 1, 1) := by decide +kernel
theorem dX3_readName_50 : decode cX3_readName 50 = .ok (.aload_n 0, 1) := by decide +kernel
theorem dX3_readName_51 : decode cX3_readName 51 = .ok (.getfield 84, 3) := by decide +kernel
theorem dX3_readName_54 : decode cX3_readName 54 = .ok (.iastore, 1) := by decide +kernel
theorem dX3_readName_55 : decode cX3_readName 55 = .ok (.aload_n 0, 1) := by decide +kernel
theorem dX3_readName_56 : decode cX3_readName 56 = .ok (.getfield 27, 3) := by decide +kernel
theorem dX3_readName_59 : decode cX3_readName 59 = .ok (.iload_n 1, 1) := by decide +kernel
theorem dX3_readName_60 : decode cX3_readName 60 = .ok (.iload_n 2, 1) := by decide +kernel
theorem dX3_readName_61 : decode cX3_readName 61 = .ok (.iastore, 1) := by decide +kernel
theorem dX3_readName_62 : decode cX3_readName 62 = .ok (.aload_n 0, 1) := by decide +kernel
theorem dX3_readName_63 : decode cX3_readName 63 = .ok (.getfield 30, 3) := by decide +kernel
theorem dX3_readName_66 : decode cX3_readName 66 = .ok (.iload_n 1, 1) := by decide +kernel
theorem dX3_readName_67 : decode cX3_readName 67 = .ok (.iconst (-1), 1) := by decide +kernel
theorem dX3_readName_68 : decode cX3_readName 68 = .ok (.iastore, 1) := by decide +kernel
theorem dX3_readName_69 : decode cX3_readName 69 = .ok (.aload_n 0, 1) := by decide +kernel
theorem dX3_readName_70 : decode cX3_readName 70 = .ok (.dup, 1) := by decide +kernel
theorem dX3_readName_71 : decode cX3_readName 71 = .ok (.getfield 52, 3) := by decide +kernel
theorem dX3_readName_74 : decode cX3_readName 74 = .ok (.iconst 1, 1) := by decide +kernel
theorem dX3_readName_75 : decode cX3_readName 75 = .ok (.iadd, 1) := by decide +kernel
theorem dX3_readName_76 : decode cX3_readName 76 = .ok (.putfield 52, 3) := by decide +kernel
theorem dX3_readName_79 : decode cX3_readName 79 = .ok (.goto 32, 3) := by decide +kernel
theorem dX3_readName_82 : decode cX3_readName 82 = .ok (.aload_n 0, 1) := by decide +kernel
theorem dX3_readName_83 : decode cX3_readName 83 = .ok (.getfield 30, 3) := by decide +kernel
theorem dX3_readName_86 : decode cX3_readName 86 = .ok (.iload_n 1, 1) := by decide +kernel
theorem dX3_readName_87 : decode cX3_readName 87 = .ok (.iaload, 1) := by decide +kernel
theorem dX3_readName_88 : decode cX3_readName 88 = .ok (.iconst (-1), 1) := by decide +kernel
theorem dX3_readName_89 : decode cX3_readName 89 = .ok (.if_icmp .ne 13, 3) := by decide +kernel
theorem dX3_readName_92 : decode cX3_readName 92 = .ok (.aload_n 0, 1) := by decide +kernel
theorem dX3_readName_93 : decode cX3_readName 93 = .ok (.getfield 30, 3) := by decide +kernel
theorem dX3_readName_96 : decode cX3_readName 96 = .ok (.iload_n 1, 1) := by decide +kernel
theorem dX3_readName_97 : decode cX3_readName 97 = .ok (.iload_n 2, 1) := by decide +kernel
theorem dX3_readName_98 : decode cX3_readName 98 = .ok (.iastore, 1) := by decide +kernel
theorem dX3_readName_99 : decode cX3_readName 99 = .ok (.goto 12, 3) := by decide +kernel
theorem dX3_readName_102 : decode cX3_readName 102 = .ok (.aload_n 0, 1) := by decide +kernel
theorem dX3_readName_103 : decode cX3_readName 103 = .ok (.aload_n 0, 1) := by decide +kernel
theorem dX3_readName_104 : decode cX3_readName 104 = .ok (.getfield 87, 3) := by decide +kernel
theorem dX3_readName_107 : decode cX3_readName 107 = .ok (.iconst 2, 1) := by decide +kernel
theorem dX3_readName_108 : decode cX3_readName 108 = .ok (.invokevirtual 90, 3) := by decide +kernel
theorem dX3_readName_111 : decode cX3_readName 111 = .ok (.iload_n 2, 1) := by decide +kernel
theorem dX3_readName_112 : decode cX3_readName 112 = .ok (.ireturn, 1) := by decide +kernel
theorem dX3_indexOfName_0 : decode cX3_indexOfName 0 = .ok (.iconst 0, 1) := by decide +kernel
theorem dX3_indexOfName_1 : decode cX3_indexOfName 1 = .ok (.istore_n 2, 1) := by decide +kernel
theorem dX3_indexOfName_2 : decode cX3_indexOfName 2 = .ok (.iload_n 2, 1) := by decide +kernel
theorem dX3_indexOfName_3 : decode cX3_indexOfName 3 = .ok (.aload_n 0, 1) := by decide +kernel
theorem dX3_indexOfName_4 : decode cX3_indexOfName 4 = .ok (.getfield 52, 3) := by decide +kernel
theorem dX3_indexOfName_7 : decode cX3_indexOfName 7 = .ok (.if_icmp .ge 21, 3) := by decide +kernel
theorem dX3_indexOfName_10 : decode cX3_indexOfName 10 = .ok (.aload_n 0, 1) := by decide +kernel
theorem dX3_indexOfName_11 : decode cX3_indexOfName 11 = .ok (.getfield 24, 3) := by decide +kernel
theorem dX3_indexOfName_14 : decode cX3_indexOfName 14 = .ok (.iload_n 2, 1) := by decide +kernel
theorem dX3_indexOfName_15 : decode cX3_indexOfName 15 = .ok (.iaload, 1) := by decide +kernel
theorem dX3_indexOfName_16 : decode cX3_indexOfName 16 = .ok (.iload_n 1, 1) := by decide +kernel
theorem dX3_indexOfName_17 : decode cX3_indexOfName 17 = .ok (.if_icmp .ne 5, 3) := by decide +kernel
theorem dX3_indexOfName_20 : decode cX3_indexOfName 20 = .ok (.iload_n 2, 1) := by decide +kernel
theorem dX3_indexOfName_21 : decode cX3_indexOfName 21 = .ok (.ireturn, 1) := by decide +kernel
theorem dX3_indexOfName_22 : decode cX3_indexOfName 22 = .ok (.iinc 2 1, 3) := by decide +kernel
theorem dX3_indexOfName_25 : decode cX3_indexOfName 25 = .ok (.goto (-23), 3) := by decide +kernel
theorem dX3_indexOfName_28 : decode cX3_indexOfName 28 = .ok (.aload_n 0, 1) := by decide +kernel
theorem dX3_indexOfName_29 : decode cX3_indexOfName 29 = .ok (.getfield 52, 3) := by decide +kernel
theorem dX3_indexOfName_32 : decode cX3_indexOfName 32 = .ok (.ireturn, 1) := by decide +kernel
set_option maxRecDepth 20000 in
theorem ggX3_endNames_X3_refuse : GoodIn wsX3_endNames wsX3_refuse := goodIn_r _ [10, 11, 53, 54, 55, 56, 57, 58, 59, 60, 61, 62, 63, 64, 65, 66] (by decide +kernel) (by decide +kernel)
set_option maxRecDepth 20000 in
theorem gX3_endNames_X3_refuse : GoodIn wsX3_endNames (wsV RX3 90 RX3 yX3_refuse wsX3_refuse) := goodIn_app (goodIn_of _ (by decide +kernel)) ggX3_endNames_X3_refuse
set_option maxRecDepth 20000 in
theorem ggX3_endNames_X0_at : GoodIn wsX3_endNames wsX0_at := goodIn_r _ [16, 17, 67, 68, 69, 70, 71, 72, 73, 74, 75, 76, 77, 78, 79, 80, 81] (by decide +kernel) (by decide +kernel)
set_option maxRecDepth 20000 in
theorem gX3_endNames_X0_at : GoodIn wsX3_endNames (wsV RX3 126 RX0 yX0_at wsX0_at) := goodIn_app (goodIn_of _ (by decide +kernel)) ggX3_endNames_X0_at
set_option maxRecDepth 20000 in
theorem ggX3_endNames_X0_makeRoot : GoodIn wsX3_endNames wsX0_makeRoot := goodIn_r _ [21, 22, 23, 24, 25, 15, 26, 27, 28, 29, 30, 31, 32, 33, 34, 35, 36, 17, 37, 38, 39, 40, 41, 42, 43, 44, 45, 46, 67, 68, 69, 70, 71, 72, 73, 74, 75, 76, 77, 78, 79, 80, 81, 82, 83] (by decide +kernel) (by decide +kernel)
set_option maxRecDepth 20000 in
theorem gX3_endNames_X0_makeRoot : GoodIn wsX3_endNames (wsV RX3 129 RX0 yX0_makeRoot wsX0_makeRoot) := goodIn_app (goodIn_of _ (by decide +kernel)) ggX3_endNames_X0_makeRoot
set_option maxRecDepth 20000 in
theorem ggX3_endNames_X0_splice : GoodIn wsX3_endNames wsX0_splice := goodIn_r _ [50, 51, 52, 13, 14, 15, 16, 17, 23, 24, 25, 26, 27, 28, 29, 30, 31, 32, 33, 34, 35, 36, 37, 38, 39, 40, 41, 42, 43, 44, 45, 46, 67, 68, 69, 70, 71, 72, 73, 74, 75, 76, 77, 78, 79, 80, 81, 82, 83] (by decide +kernel) (by decide +kernel)
set_option maxRecDepth 20000 in
theorem gX3_endNames_X0_splice : GoodIn wsX3_endNames (wsV RX3 132 RX0 yX0_splice wsX0_splice) := goodIn_app (goodIn_of _ (by decide +kernel)) ggX3_endNames_X0_splice
theorem dX3_endNames_0 : decode cX3_endNames 0 = .ok (.iconst 0, 1) := by decide +kernel
theorem dX3_endNames_1 : decode cX3_endNames 1 = .ok (.istore_n 1, 1) := by decide +kernel
theorem dX3_endNames_2 : decode cX3_endNames 2 = .ok (.iconst 0, 1) := by decide +kernel
theorem dX3_endNames_3 : decode cX3_endNames 3 = .ok (.istore_n 2, 1) := by decide +kernel
theorem dX3_endNames_4 : decode cX3_endNames 4 = .ok (.iload_n 2, 1) := by decide +kernel
theorem dX3_endNames_5 : decode cX3_endNames 5 = .ok (.aload_n 0, 1) := by decide +kernel
theorem dX3_endNames_6 : decode cX3_endNames 6 = .ok (.getfield 52, 3) := by decide +kernel
theorem dX3_endNames_9 : decode cX3_endNames 9 = .ok (.if_icmp .ge 22, 3) := by decide +kernel
theorem dX3_endNames_12 : decode cX3_endNames 12 = .ok (.aload_n 0, 1) := by decide +kernel
theorem dX3_endNames_13 : decode cX3_endNames 13 = .ok (.getfield 30, 3) := by decide +kernel
theorem dX3_endNames_16 : decode cX3_endNames 16 = .ok (.iload_n 2, 1) := by decide +kernel
theorem dX3_endNames_17 : decode cX3_endNames 17 = .ok (.iaload, 1) := by decide +kernel
theorem dX3_endNames_18 : decode cX3_endNames 18 = .ok (.iconst (-1), 1) := by decide +kernel
theorem dX3_endNames_19 : decode cX3_endNames 19 = .ok (.if_icmp .ne 6, 3) := by decide +kernel
theorem dX3_endNames_22 : decode cX3_endNames 22 = .ok (.iinc 1 1, 3) := by decide +kernel
theorem dX3_endNames_25 : decode cX3_endNames 25 = .ok (.iinc 2 1, 3) := by decide +kernel
theorem dX3_endNames_28 : decode cX3_endNames 28 = .ok (.goto (-24), 3) := by decide +kernel
theorem dX3_endNames_31 : decode cX3_endNames 31 = .ok (.iload_n 1, 1) := by decide +kernel
theorem dX3_endNames_32 : decode cX3_endNames 32 = .ok (.bipush 16, 2) := by decide +kernel
theorem dX3_endNames_34 : decode cX3_endNames 34 = .ok (.if_icmp .le 14, 3) := by decide +kernel
theorem dX3_endNames_37 : decode cX3_endNames 37 = .ok (.aload_n 0, 1) := by decide +kernel
theorem dX3_endNames_38 : decode cX3_endNames 38 = .ok (.aload_n 0, 1) := by decide +kernel
theorem dX3_endNames_39 : decode cX3_endNames 39 = .ok (.getfield 42, 3) := by decide +kernel
theorem dX3_endNames_42 : decode cX3_endNames 42 = .ok (.bipush 6, 2) := by decide +kernel
theorem dX3_endNames_44 : decode cX3_endNames 44 = .ok (.invokevirtual 90, 3) := by decide +kernel
theorem dX3_endNames_47 : decode cX3_endNames 47 = .ok (.return_, 1) := by decide +kernel
theorem dX3_endNames_48 : decode cX3_endNames 48 = .ok (.iconst 0, 1) := by decide +kernel
theorem dX3_endNames_49 : decode cX3_endNames 49 = .ok (.istore_n 2, 1) := by decide +kernel
theorem dX3_endNames_50 : decode cX3_endNames 50 = .ok (.iload_n 2, 1) := by decide +kernel
theorem dX3_endNames_51 : decode cX3_endNames 51 = .ok (.aload_n 0, 1) := by decide +kernel
theorem dX3_endNames_52 : decode cX3_endNames 52 = .ok (.getfield 52, 3) := by decide +kernel
theorem dX3_endNames_55 : decode cX3_endNames 55 = .ok (.if_icmp .ge 62, 3) := by decide +kernel
theorem dX3_endNames_58 : decode cX3_endNames 58 = .ok (.aload_n 0, 1) := by decide +kernel
theorem dX3_endNames_59 : decode cX3_endNames 59 = .ok (.getfield 30, 3) := by decide +kernel
theorem dX3_endNames_62 : decode cX3_endNames 62 = .ok (.iload_n 2, 1) := by decide +kernel
theorem dX3_endNames_63 : decode cX3_endNames 63 = .ok (.iaload, 1) := by decide +kernel
theorem dX3_endNames_64 : decode cX3_endNames 64 = .ok (.iconst (-1), 1) := by decide +kernel
theorem dX3_endNames_65 : decode cX3_endNames 65 = .ok (.if_icmp .ne 27, 3) := by decide +kernel
theorem dX3_endNames_68 : decode cX3_endNames 68 = .ok (.aload_n 0, 1) := by decide +kernel
theorem dX3_endNames_69 : decode cX3_endNames 69 = .ok (.getfield 14, 3) := by decide +kernel
theorem dX3_endNames_72 : decode cX3_endNames 72 = .ok (.aload_n 0, 1) := by decide +kernel
theorem dX3_endNames_73 : decode cX3_endNames 73 = .ok (.getfield 14, 3) := by decide +kernel
theorem dX3_endNames_76 : decode cX3_endNames 76 = .ok (.aload_n 0, 1) := by decide +kernel
theorem dX3_endNames_77 : decode cX3_endNames 77 = .ok (.getfield 27, 3) := by decide +kernel
theorem dX3_endNames_80 : decode cX3_endNames 80 = .ok (.iload_n 2, 1) := by decide +kernel
theorem dX3_endNames_81 : decode cX3_endNames 81 = .ok (.iaload, 1) := by decide +kernel
theorem dX3_endNames_82 : decode cX3_endNames 82 = .ok (.invokevirtual 126, 3) := by decide +kernel
theorem dX3_endNames_85 : decode cX3_endNames 85 = .ok (.invokevirtual 129, 3) := by decide +kernel
theorem dX3_endNames_88 : decode cX3_endNames 88 = .ok (.pop, 1) := by decide +kernel
theorem dX3_endNames_89 : decode cX3_endNames 89 = .ok (.goto 22, 3) := by decide +kernel
theorem dX3_endNames_92 : decode cX3_endNames 92 = .ok (.aload_n 0, 1) := by decide +kernel
theorem dX3_endNames_93 : decode cX3_endNames 93 = .ok (.getfield 14, 3) := by decide +kernel
theorem dX3_endNames_96 : decode cX3_endNames 96 = .ok (.aload_n 0, 1) := by decide +kernel
theorem dX3_endNames_97 : decode cX3_endNames 97 = .ok (.getfield 27, 3) := by decide +kernel
theorem dX3_endNames_100 : decode cX3_endNames 100 = .ok (.iload_n 2, 1) := by decide +kernel
theorem dX3_endNames_101 : decode cX3_endNames 101 = .ok (.iaload, 1) := by decide +kernel
theorem dX3_endNames_102 : decode cX3_endNames 102 = .ok (.aload_n 0, 1) := by decide +kernel
theorem dX3_endNames_103 : decode cX3_endNames 103 = .ok (.getfield 30, 3) := by decide +kernel
theorem dX3_endNames_106 : decode cX3_endNames 106 = .ok (.iload_n 2, 1) := by decide +kernel
theorem dX3_endNames_107 : decode cX3_endNames 107 = .ok (.iaload, 1) := by decide +kernel
theorem dX3_endNames_108 : decode cX3_endNames 108 = .ok (.invokevirtual 132, 3) := by decide +kernel
theorem dX3_endNames_111 : decode cX3_endNames 111 = .ok (.iinc 2 1, 3) := by decide +kernel
theorem dX3_endNames_114 : decode cX3_endNames 114 = .ok (.goto (-64), 3) := by decide +kernel
theorem dX3_endNames_117 : decode cX3_endNames 117 = .ok (.return_, 1) := by decide +kernel
set_option maxRecDepth 20000 in
theorem ggX3_expect_X3_advance : GoodIn wsX3_expect wsX3_advance := goodIn_r _ [7, 1, 8, 9, 2, 10, 11, 12, 13, 6, 14, 15, 16, 17, 18, 19, 20, 21, 22, 23, 24, 25, 26, 27, 28, 29, 30, 31, 32, 33, 34, 35, 36, 37, 38, 39, 40, 41, 42, 43, 44, 45, 46, 47, 48, 49, 50, 51, 52, 53, 54, 55, 56, 57, 58, 59, 60, 61, 62, 63, 64, 65, 66, 67, 68, 69, 70, 71, 72, 73, 74, 75, 76, 77, 78, 79, 80, 81, 82, 83, 84, 85, 86, 87, 88, 89, 90, 91, 92, 93, 94, 95, 96, 97, 98, 99, 100, 101, 102, 103, 104, 105, 106, 107, 108, 109, 110, 111, 112, 113, 114, 115, 116, 117, 118, 119, 120, 121, 122, 123, 124, 125, 126, 127, 128, 129, 130, 131, 132, 133, 134, 135, 136, 137, 138, 139, 140, 141, 142, 143, 144, 149, 150, 151, 152, 153, 154, 155, 156, 157, 158, 159, 160, 161, 162] (by decide +kernel) (by decide +kernel)
set_option maxRecDepth 20000 in
theorem gX3_expect_X3_advance : GoodIn wsX3_expect (wsV RX3 61 RX3 yX3_advance wsX3_advance) := goodIn_app (goodIn_of _ (by decide +kernel)) ggX3_expect_X3_advance
set_option maxRecDepth 20000 in
theorem ggX3_expect_X3_refuse : GoodIn wsX3_expect wsX3_refuse := goodIn_r _ [148, 8, 149, 150, 151, 152, 153, 154, 155, 156, 157, 158, 159, 160, 161, 162] (by decide +kernel) (by decide +kernel)
set_option maxRecDepth 20000 in
theorem gX3_expect_X3_refuse : GoodIn wsX3_expect (wsV RX3 90 RX3 yX3_refuse wsX3_refuse) := goodIn_app (goodIn_of _ (by decide +kernel)) ggX3_expect_X3_refuse
theorem dX3_expect_0 : decode cX3_expect 0 = .ok (.aload_n 0, 1) := by decide +kernel
theorem dX3_expect_1 : decode cX3_expect 1 = .ok (.invokevirtual 61, 3) := by decide +kernel
theorem dX3_expect_4 : decode cX3_expect 4 = .ok (.aload_n 0, 1) := by decide +kernel
theorem dX3_expect_5 : decode cX3_expect 5 = .ok (.getfield 64, 3) := by decide +kernel
theorem dX3_expect_8 : decode cX3_expect 8 = .ok (.iload_n 1, 1) := by decide +kernel
theorem dX3_expect_9 : decode cX3_expect 9 = .ok (.if_icmp .eq 12, 3) := by decide +kernel
theorem dX3_expect_12 : decode cX3_expect 12 = .ok (.aload_n 0, 1) := by decide +kernel
theorem dX3_expect_13 : decode cX3_expect 13 = .ok (.aload_n 0, 1) := by decide +kernel
theorem dX3_expect_14 : decode cX3_expect 14 = .ok (.getfield 87, 3) := by decide +kernel
theorem dX3_expect_17 : decode cX3_expect 17 = .ok (.iconst 1, 1) := by decide +kernel
theorem dX3_expect_18 : decode cX3_expect 18 = .ok (.invokevirtual 90, 3) := by decide +kernel
theorem dX3_expect_21 : decode cX3_expect 21 = .ok (.return_, 1) := by decide +kernel
set_option maxRecDepth 20000 in
theorem ggX3_advance_X3_skipBlanks : GoodIn wsX3_advance wsX3_skipBlanks := goodIn_r _ [10, 3, 5, 11, 12, 13, 9, 14, 15, 141, 142, 143, 144, 145, 146, 147, 148, 149, 150, 151, 152, 153, 154] (by decide +kernel) (by decide +kernel)
set_option maxRecDepth 20000 in
theorem gX3_advance_X3_skipBlanks : GoodIn wsX3_advance (wsV RX3 135 RX3 yX3_skipBlanks wsX3_skipBlanks) := goodIn_app (goodIn_of _ (by decide +kernel)) ggX3_advance_X3_skipBlanks
set_option maxRecDepth 20000 in
theorem ggX3_advance_X3_byteAt : GoodIn wsX3_advance wsX3_byteAt := goodIn_r _ [14, 5, 15, 141, 142, 143, 144, 145, 146, 147, 148, 149, 150, 151, 152, 153, 154] (by decide +kernel) (by decide +kernel)
set_option maxRecDepth 20000 in
theorem gX3_advance_X3_byteAt : GoodIn wsX3_advance (wsV RX3 138 RX3 yX3_byteAt wsX3_byteAt) := goodIn_app (goodIn_of _ (by decide +kernel)) ggX3_advance_X3_byteAt
set_option maxRecDepth 20000 in
theorem ggX3_advance_X3_isLetter : GoodIn wsX3_advance wsX3_isLetter := goodIn_r _ [18] (by decide +kernel) (by decide +kernel)
set_option maxRecDepth 20000 in
theorem gX3_advance_X3_isLetter : GoodIn wsX3_advance (va_wsS RX3 141 yX3_isLetter wsX3_isLetter) := goodIn_app (goodIn_of _ (by decide +kernel)) ggX3_advance_X3_isLetter
set_option maxRecDepth 20000 in
theorem ggX3_advance_X3_readWord : GoodIn wsX3_advance wsX3_readWord := goodIn_r _ [22, 23, 3, 5, 4, 1, 11, 12, 13, 9, 14, 15, 16, 17, 18, 24, 25, 26, 27, 28, 29, 30, 31, 32, 33, 34, 35, 36, 37, 38, 39, 40, 41, 42, 43, 44, 45, 46, 47, 48, 49, 50, 51, 52, 53, 54, 55, 56, 57, 58, 59, 60, 61, 62, 63, 64, 65, 66, 67, 68, 69, 70, 71, 72, 141, 142, 143, 144, 145, 146, 147, 148, 149, 150, 151, 152, 153, 154] (by decide +kernel) (by decide +kernel)
set_option maxRecDepth 20000 in
theorem gX3_advance_X3_readWord : GoodIn wsX3_advance (wsV RX3 144 RX3 yX3_readWord wsX3_readWord) := goodIn_app (goodIn_of _ (by decide +kernel)) ggX3_advance_X3_readWord
set_option maxRecDepth 20000 in
theorem ggX3_advance_X3_isDigit : GoodIn wsX3_advance wsX3_isDigit := goodIn_r _ [75] (by decide +kernel) (by decide +kernel)
set_option maxRecDepth 20000 in
theorem gX3_advance_X3_isDigit : GoodIn wsX3_advance (va_wsS RX3 147 yX3_isDigit wsX3_isDigit) := goodIn_app (goodIn_of _ (by decide +kernel)) ggX3_advance_X3_isDigit
set_option maxRecDepth 20000 in
theorem ggX3_advance_X3_readDigits : GoodIn wsX3_advance wsX3_readDigits := goodIn_r _ [79, 23, 3, 5, 4, 1, 11, 12, 13, 9, 14, 15, 73, 74, 75, 141, 142, 143, 144, 145, 146, 147, 148, 149, 150, 151, 152, 153, 154] (by decide +kernel) (by decide +kernel)
set_option maxRecDepth 20000 in
theorem gX3_advance_X3_readDigits : GoodIn wsX3_advance (wsV RX3 150 RX3 yX3_readDigits wsX3_readDigits) := goodIn_app (goodIn_of _ (by decide +kernel)) ggX3_advance_X3_readDigits
set_option maxRecDepth 20000 in
theorem ggX3_advance_J0_indexOf_0f7a4 : GoodIn wsX3_advance wsJ0_indexOf_0f7a4 := goodIn_r _ [83, 84, 85, 86, 27, 87, 29, 40, 41, 42, 43, 34, 35, 88, 25, 26, 28, 30, 31, 32, 33, 89, 90, 46, 91, 92, 93, 94, 95, 96, 97, 98, 99, 100, 101, 102, 103, 104, 105, 106, 58, 107, 108, 109, 110, 111, 112, 113, 114, 115, 116, 63, 64, 65, 117, 118, 119, 51, 120, 121, 54, 122, 123, 124, 125, 67, 68, 69, 70, 71, 72, 126, 127, 128, 129, 130, 131, 132, 133, 134, 135, 136, 137, 138, 139, 140] (by decide +kernel) (by decide +kernel)
set_option maxRecDepth 20000 in
theorem gX3_advance_J0_indexOf_0f7a4 : GoodIn wsX3_advance (wsV RX3 155 RJ0 yJ0_indexOf_0f7a4 wsJ0_indexOf_0f7a4) := goodIn_app (goodIn_of _ (by decide +kernel)) ggX3_advance_J0_indexOf_0f7a4
theorem dX3_advance_0 : decode cX3_advance 0 = .ok (.aload_n 0, 1) := by decide +kernel
theorem dX3_advance_1 : decode cX3_advance 1 = .ok (.iconst 1, 1) := by decide +kernel
theorem dX3_advance_2 : decode cX3_advance 2 = .ok (.putfield 64, 3) := by decide +kernel
theorem dX3_advance_5 : decode cX3_advance 5 = .ok (.aload_n 0, 1) := by decide +kernel
theorem dX3_advance_6 : decode cX3_advance 6 = .ok (.getfield 49, 3) := by decide +kernel
theorem dX3_advance_9 : decode cX3_advance 9 = .ok (.ifCond .eq 4, 3) := by decide +kernel
theorem dX3_advance_12 : decode cX3_advance 12 = .ok (.return_, 1) := by decide +kernel
theorem dX3_advance_13 : decode cX3_advance 13 = .ok (.aload_n 0, 1) := by decide +kernel
theorem dX3_advance_14 : decode cX3_advance 14 = .ok (.invokevirtual 135, 3) := by decide +kernel
theorem dX3_advance_17 : decode cX3_advance 17 = .ok (.aload_n 0, 1) := by decide +kernel
theorem dX3_advance_18 : decode cX3_advance 18 = .ok (.aload_n 0, 1) := by decide +kernel
theorem dX3_advance_19 : decode cX3_advance 19 = .ok (.getfield 46, 3) := by decide +kernel
theorem dX3_advance_22 : decode cX3_advance 22 = .ok (.putfield 87, 3) := by decide +kernel
theorem dX3_advance_25 : decode cX3_advance 25 = .ok (.aload_n 0, 1) := by decide +kernel
theorem dX3_advance_26 : decode cX3_advance 26 = .ok (.aload_n 0, 1) := by decide +kernel
theorem dX3_advance_27 : decode cX3_advance 27 = .ok (.getfield 46, 3) := by decide +kernel
theorem dX3_advance_30 : decode cX3_advance 30 = .ok (.invokevirtual 138, 3) := by decide +kernel
theorem dX3_advance_33 : decode cX3_advance 33 = .ok (.istore_n 1, 1) := by decide +kernel
theorem dX3_advance_34 : decode cX3_advance 34 = .ok (.aload_n 0, 1) := by decide +kernel
theorem dX3_advance_35 : decode cX3_advance 35 = .ok (.getfield 46, 3) := by decide +kernel
theorem dX3_advance_38 : decode cX3_advance 38 = .ok (.aload_n 0, 1) := by decide +kernel
theorem dX3_advance_39 : decode cX3_advance 39 = .ok (.getfield 42, 3) := by decide +kernel
theorem dX3_advance_42 : decode cX3_advance 42 = .ok (.if_icmp .lt 11, 3) := by decide +kernel
theorem dX3_advance_45 : decode cX3_advance 45 = .ok (.aload_n 0, 1) := by decide +kernel
theorem dX3_advance_46 : decode cX3_advance 46 = .ok (.iconst 0, 1) := by decide +kernel
theorem dX3_advance_47 : decode cX3_advance 47 = .ok (.putfield 64, 3) := by decide +kernel
theorem dX3_advance_50 : decode cX3_advance 50 = .ok (.goto 63, 3) := by decide +kernel
theorem dX3_advance_53 : decode cX3_advance 53 = .ok (.iload_n 1, 1) := by decide +kernel
theorem dX3_advance_54 : decode cX3_advance 54 = .ok (.invokestatic 141, 3) := by decide +kernel
theorem dX3_advance_57 : decode cX3_advance 57 = .ok (.ifCond .eq 10, 3) := by decide +kernel
theorem dX3_advance_60 : decode cX3_advance 60 = .ok (.aload_n 0, 1) := by decide +kernel
theorem dX3_advance_61 : decode cX3_advance 61 = .ok (.invokevirtual 144, 3) := by decide +kernel
theorem dX3_advance_64 : decode cX3_advance 64 = .ok (.goto 49, 3) := by decide +kernel
theorem dX3_advance_67 : decode cX3_advance 67 = .ok (.iload_n 1, 1) := by decide +kernel
theorem dX3_advance_68 : decode cX3_advance 68 = .ok (.invokestatic 147, 3) := by decide +kernel
theorem dX3_advance_71 : decode cX3_advance 71 = .ok (.ifCond .eq 10, 3) := by decide +kernel
theorem dX3_advance_74 : decode cX3_advance 74 = .ok (.aload_n 0, 1) := by decide +kernel
theorem dX3_advance_75 : decode cX3_advance 75 = .ok (.invokevirtual 150, 3) := by decide +kernel
theorem dX3_advance_78 : decode cX3_advance 78 = .ok (.goto 35, 3) := by decide +kernel
theorem dX3_advance_81 : decode cX3_advance 81 = .ok (.iload_n 1, 1) := by decide +kernel
theorem dX3_advance_82 : decode cX3_advance 82 = .ok (.sipush 128, 3) := by decide +kernel
theorem dX3_advance_85 : decode cX3_advance 85 = .ok (.if_icmp .ge 28, 3) := by decide +kernel
theorem dX3_advance_88 : decode cX3_advance 88 = .ok (.ldc 153, 2) := by decide +kernel
theorem dX3_advance_90 : decode cX3_advance 90 = .ok (.iload_n 1, 1) := by decide +kernel
theorem dX3_advance_91 : decode cX3_advance 91 = .ok (.i2c, 1) := by decide +kernel
theorem dX3_advance_92 : decode cX3_advance 92 = .ok (.invokevirtual 155, 3) := by decide +kernel
theorem dX3_advance_95 : decode cX3_advance 95 = .ok (.ifCond .lt 18, 3) := by decide +kernel
theorem dX3_advance_98 : decode cX3_advance 98 = .ok (.aload_n 0, 1) := by decide +kernel
theorem dX3_advance_99 : decode cX3_advance 99 = .ok (.iload_n 1, 1) := by decide +kernel
theorem dX3_advance_100 : decode cX3_advance 100 = .ok (.putfield 64, 3) := by decide +kernel
theorem dX3_advance_103 : decode cX3_advance 103 = .ok (.aload_n 0, 1) := by decide +kernel
theorem dX3_advance_104 : decode cX3_advance 104 = .ok (.dup, 1) := by decide +kernel
theorem dX3_advance_105 : decode cX3_advance 105 = .ok (.getfield 46, 3) := by decide +kernel
theorem dX3_advance_108 : decode cX3_advance 108 = .ok (.iconst 1, 1) := by decide +kernel
theorem dX3_advance_109 : decode cX3_advance 109 = .ok (.iadd, 1) := by decide +kernel
theorem dX3_advance_110 : decode cX3_advance 110 = .ok (.putfield 46, 3) := by decide +kernel
theorem dX3_advance_113 : decode cX3_advance 113 = .ok (.return_, 1) := by decide +kernel
set_option maxRecDepth 20000 in
theorem ggX3_skipBlanks_X3_byteAt : GoodIn wsX3_skipBlanks wsX3_byteAt := goodIn_r _ [7, 2, 8, 9, 10, 11, 12, 13, 14, 15, 16, 17, 18, 19, 20, 21, 22] (by decide +kernel) (by decide +kernel)
set_option maxRecDepth 20000 in
theorem gX3_skipBlanks_X3_byteAt : GoodIn wsX3_skipBlanks (wsV RX3 138 RX3 yX3_byteAt wsX3_byteAt) := goodIn_app (goodIn_of _ (by decide +kernel)) ggX3_skipBlanks_X3_byteAt
theorem dX3_skipBlanks_0 : decode cX3_skipBlanks 0 = .ok (.aload_n 0, 1) := by decide +kernel
theorem dX3_skipBlanks_1 : decode cX3_skipBlanks 1 = .ok (.getfield 46, 3) := by decide +kernel
theorem dX3_skipBlanks_4 : decode cX3_skipBlanks 4 = .ok (.aload_n 0, 1) := by decide +kernel
theorem dX3_skipBlanks_5 : decode cX3_skipBlanks 5 = .ok (.getfield 42, 3) := by decide +kernel
theorem dX3_skipBlanks_8 : decode cX3_skipBlanks 8 = .ok (.if_icmp .ge 42, 3) := by decide +kernel
theorem dX3_skipBlanks_11 : decode cX3_skipBlanks 11 = .ok (.aload_n 0, 1) := by decide +kernel
theorem dX3_skipBlanks_12 : decode cX3_skipBlanks 12 = .ok (.aload_n 0, 1) := by decide +kernel
theorem dX3_skipBlanks_13 : decode cX3_skipBlanks 13 = .ok (.getfield 46, 3) := by decide +kernel
theorem dX3_skipBlanks_16 : decode cX3_skipBlanks 16 = .ok (.invokevirtual 138, 3) := by decide +kernel
theorem dX3_skipBlanks_19 : decode cX3_skipBlanks 19 = .ok (.bipush 32, 2) := by decide +kernel
theorem dX3_skipBlanks_21 : decode cX3_skipBlanks 21 = .ok (.if_icmp .eq 16, 3) := by decide +kernel
theorem dX3_skipBlanks_24 : decode cX3_skipBlanks 24 = .ok (.aload_n 0, 1) := by decide +kernel
theorem dX3_skipBlanks_25 : decode cX3_skipBlanks 25 = .ok (.aload_n 0, 1) := by decide +kernel
theorem dX3_skipBlanks_26 : decode cX3_skipBlanks 26 = .ok (.getfield 46, 3) := by decide +kernel
theorem dX3_skipBlanks_29 : decode cX3_skipBlanks 29 = .ok (.invokevirtual 138, 3) := by decide +kernel
theorem dX3_skipBlanks_32 : decode cX3_skipBlanks 32 = .ok (.bipush 10, 2) := by decide +kernel
theorem dX3_skipBlanks_34 : decode cX3_skipBlanks 34 = .ok (.if_icmp .ne 16, 3) := by decide +kernel
theorem dX3_skipBlanks_37 : decode cX3_skipBlanks 37 = .ok (.aload_n 0, 1) := by decide +kernel
theorem dX3_skipBlanks_38 : decode cX3_skipBlanks 38 = .ok (.dup, 1) := by decide +kernel
theorem dX3_skipBlanks_39 : decode cX3_skipBlanks 39 = .ok (.getfield 46, 3) := by decide +kernel
theorem dX3_skipBlanks_42 : decode cX3_skipBlanks 42 = .ok (.iconst 1, 1) := by decide +kernel
theorem dX3_skipBlanks_43 : decode cX3_skipBlanks 43 = .ok (.iadd, 1) := by decide +kernel
theorem dX3_skipBlanks_44 : decode cX3_skipBlanks 44 = .ok (.putfield 46, 3) := by decide +kernel
theorem dX3_skipBlanks_47 : decode cX3_skipBlanks 47 = .ok (.goto (-47), 3) := by decide +kernel
theorem dX3_skipBlanks_50 : decode cX3_skipBlanks 50 = .ok (.return_, 1) := by decide +kernel
set_option maxRecDepth 20000 in
theorem ggX3_readWord_X3_byteAt : GoodIn wsX3_readWord wsX3_byteAt := goodIn_r _ [10, 3, 11, 64, 65, 66, 67, 68, 69, 70, 71, 72, 73, 74, 75, 76, 77] (by decide +kernel) (by decide +kernel)
set_option maxRecDepth 20000 in
theorem gX3_readWord_X3_byteAt : GoodIn wsX3_readWord (wsV RX3 138 RX3 yX3_byteAt wsX3_byteAt) := goodIn_app (goodIn_of _ (by decide +kernel)) ggX3_readWord_X3_byteAt
set_option maxRecDepth 20000 in
theorem ggX3_readWord_X3_isLetter : GoodIn wsX3_readWord wsX3_isLetter := goodIn_r _ [14] (by decide +kernel) (by decide +kernel)
set_option maxRecDepth 20000 in
theorem gX3_readWord_X3_isLetter : GoodIn wsX3_readWord (va_wsS RX3 141 yX3_isLetter wsX3_isLetter) := goodIn_app (goodIn_of _ (by decide +kernel)) ggX3_readWord_X3_isLetter
set_option maxRecDepth 20000 in
theorem ggX3_readWord_J0_length_8abf5 : GoodIn wsX3_readWord wsJ0_length_8abf5 := goodIn_r _ [19, 20, 21, 22, 23, 18, 24, 25, 26] (by decide +kernel) (by decide +kernel)
set_option maxRecDepth 20000 in
theorem gX3_readWord_J0_length_8abf5 : GoodIn wsX3_readWord (wsV RX3 162 RJ0 yJ0_length_8abf5 wsJ0_length_8abf5) := goodIn_app (goodIn_of _ (by decide +kernel)) ggX3_readWord_J0_length_8abf5
set_option maxRecDepth 20000 in
theorem ggX3_readWord_J0_charAt_5068e : GoodIn wsX3_readWord wsJ0_charAt_5068e := goodIn_r _ [30, 20, 31, 32, 33, 18, 34, 25, 26, 35, 36, 37, 38, 39, 40, 41, 42, 43, 44, 45, 46, 47, 48, 49, 50, 51, 52, 53, 54, 55, 56, 57, 58, 59, 60, 61, 62, 63] (by decide +kernel) (by decide +kernel)
set_option maxRecDepth 20000 in
theorem gX3_readWord_J0_charAt_5068e : GoodIn wsX3_readWord (wsV RX3 164 RJ0 yJ0_charAt_5068e wsJ0_charAt_5068e) := goodIn_app (goodIn_of _ (by decide +kernel)) ggX3_readWord_J0_charAt_5068e
theorem dX3_readWord_0 : decode cX3_readWord 0 = .ok (.iconst 1, 1) := by decide +kernel
theorem dX3_readWord_1 : decode cX3_readWord 1 = .ok (.istore_n 1, 1) := by decide +kernel
theorem dX3_readWord_2 : decode cX3_readWord 2 = .ok (.aload_n 0, 1) := by decide +kernel
theorem dX3_readWord_3 : decode cX3_readWord 3 = .ok (.iconst 0, 1) := by decide +kernel
theorem dX3_readWord_4 : decode cX3_readWord 4 = .ok (.putfield 84, 3) := by decide +kernel
theorem dX3_readWord_7 : decode cX3_readWord 7 = .ok (.aload_n 0, 1) := by decide +kernel
theorem dX3_readWord_8 : decode cX3_readWord 8 = .ok (.getfield 46, 3) := by decide +kernel
theorem dX3_readWord_11 : decode cX3_readWord 11 = .ok (.aload_n 0, 1) := by decide +kernel
theorem dX3_readWord_12 : decode cX3_readWord 12 = .ok (.getfield 42, 3) := by decide +kernel
theorem dX3_readWord_15 : decode cX3_readWord 15 = .ok (.if_icmp .ge 101, 3) := by decide +kernel
theorem dX3_readWord_18 : decode cX3_readWord 18 = .ok (.aload_n 0, 1) := by decide +kernel
theorem dX3_readWord_19 : decode cX3_readWord 19 = .ok (.aload_n 0, 1) := by decide +kernel
theorem dX3_readWord_20 : decode cX3_readWord 20 = .ok (.getfield 46, 3) := by decide +kernel
theorem dX3_readWord_23 : decode cX3_readWord 23 = .ok (.invokevirtual 138, 3) := by decide +kernel
theorem dX3_readWord_26 : decode cX3_readWord 26 = .ok (.invokestatic 141, 3) := by decide +kernel
theorem dX3_readWord_29 : decode cX3_readWord 29 = .ok (.ifCond .eq 87, 3) := by decide +kernel
theorem dX3_readWord_32 : decode cX3_readWord 32 = .ok (.aload_n 0, 1) := by decide +kernel
theorem dX3_readWord_33 : decode cX3_readWord 33 = .ok (.getfield 46, 3) := by decide +kernel
theorem dX3_readWord_36 : decode cX3_readWord 36 = .ok (.aload_n 0, 1) := by decide +kernel
theorem dX3_readWord_37 : decode cX3_readWord 37 = .ok (.getfield 87, 3) := by decide +kernel
theorem dX3_readWord_40 : decode cX3_readWord 40 = .ok (.isub, 1) := by decide +kernel
theorem dX3_readWord_41 : decode cX3_readWord 41 = .ok (.istore_n 2, 1) := by decide +kernel
theorem dX3_readWord_42 : decode cX3_readWord 42 = .ok (.iload_n 1, 1) := by decide +kernel
theorem dX3_readWord_43 : decode cX3_readWord 43 = .ok (.ifCond .eq 33, 3) := by decide +kernel
theorem dX3_readWord_46 : decode cX3_readWord 46 = .ok (.iload_n 2, 1) := by decide +kernel
theorem dX3_readWord_47 : decode cX3_readWord 47 = .ok (.ldc 160, 2) := by decide +kernel
theorem dX3_readWord_49 : decode cX3_readWord 49 = .ok (.invokevirtual 162, 3) := by decide +kernel
theorem dX3_readWord_52 : decode cX3_readWord 52 = .ok (.if_icmp .ge 24, 3) := by decide +kernel
theorem dX3_readWord_55 : decode cX3_readWord 55 = .ok (.aload_n 0, 1) := by decide +kernel
theorem dX3_readWord_56 : decode cX3_readWord 56 = .ok (.aload_n 0, 1) := by decide +kernel
theorem dX3_readWord_57 : decode cX3_readWord 57 = .ok (.getfield 46, 3) := by decide +kernel
theorem dX3_readWord_60 : decode cX3_readWord 60 = .ok (.invokevirtual 138, 3) := by decide +kernel
theorem dX3_readWord_63 : decode cX3_readWord 63 = .ok (.ldc 160, 2) := by decide +kernel
theorem dX3_readWord_65 : decode cX3_readWord 65 = .ok (.iload_n 2, 1) := by decide +kernel
theorem dX3_readWord_66 : decode cX3_readWord 66 = .ok (.invokevirtual 164, 3) := by decide +kernel
theorem dX3_readWord_69 : decode cX3_readWord 69 = .ok (.if_icmp .ne 7, 3) := by decide +kernel
theorem dX3_readWord_72 : decode cX3_readWord 72 = .ok (.iconst 1, 1) := by decide +kernel
theorem dX3_readWord_73 : decode cX3_readWord 73 = .ok (.goto 4, 3) := by decide +kernel
theorem dX3_readWord_76 : decode cX3_readWord 76 = .ok (.iconst 0, 1) := by decide +kernel
theorem dX3_readWord_77 : decode cX3_readWord 77 = .ok (.istore_n 1, 1) := by decide +kernel
theorem dX3_readWord_78 : decode cX3_readWord 78 = .ok (.aload_n 0, 1) := by decide +kernel
theorem dX3_readWord_79 : decode cX3_readWord 79 = .ok (.bipush 27, 2) := by decide +kernel
theorem dX3_readWord_81 : decode cX3_readWord 81 = .ok (.aload_n 0, 1) := by decide +kernel
theorem dX3_readWord_82 : decode cX3_readWord 82 = .ok (.getfield 84, 3) := by decide +kernel
theorem dX3_readWord_85 : decode cX3_readWord 85 = .ok (.imul, 1) := by decide +kernel
theorem dX3_readWord_86 : decode cX3_readWord 86 = .ok (.aload_n 0, 1) := by decide +kernel
theorem dX3_readWord_87 : decode cX3_readWord 87 = .ok (.aload_n 0, 1) := by decide +kernel
theorem dX3_readWord_88 : decode cX3_readWord 88 = .ok (.getfield 46, 3) := by decide +kernel
theorem dX3_readWord_91 : decode cX3_readWord 91 = .ok (.invokevirtual 138, 3) := by decide +kernel
theorem dX3_readWord_94 : decode cX3_readWord 94 = .ok (.iadd, 1) := by decide +kernel
theorem dX3_readWord_95 : decode cX3_readWord 95 = .ok (.bipush 97, 2) := by decide +kernel
theorem dX3_readWord_97 : decode cX3_readWord 97 = .ok (.isub, 1) := by decide +kernel
theorem dX3_readWord_98 : decode cX3_readWord 98 = .ok (.iconst 1, 1) := by decide +kernel
theorem dX3_readWord_99 : decode cX3_readWord 99 = .ok (.iadd, 1) := by decide +kernel
theorem dX3_readWord_100 : decode cX3_readWord 100 = .ok (.putfield 84, 3) := by decide +kernel
theorem dX3_readWord_103 : decode cX3_readWord 103 = .ok (.aload_n 0, 1) := by decide +kernel
theorem dX3_readWord_104 : decode cX3_readWord 104 = .ok (.dup, 1) := by decide +kernel
theorem dX3_readWord_105 : decode cX3_readWord 105 = .ok (.getfield 46, 3) := by decide +kernel
theorem dX3_readWord_108 : decode cX3_readWord 108 = .ok (.iconst 1, 1) := by decide +kernel
theorem dX3_readWord_109 : decode cX3_readWord 109 = .ok (.iadd, 1) := by decide +kernel
theorem dX3_readWord_110 : decode cX3_readWord 110 = .ok (.putfield 46, 3) := by decide +kernel
theorem dX3_readWord_113 : decode cX3_readWord 113 = .ok (.goto (-106), 3) := by decide +kernel
theorem dX3_readWord_116 : decode cX3_readWord 116 = .ok (.aload_n 0, 1) := by decide +kernel
theorem dX3_readWord_117 : decode cX3_readWord 117 = .ok (.getfield 46, 3) := by decide +kernel
theorem dX3_readWord_120 : decode cX3_readWord 120 = .ok (.aload_n 0, 1) := by decide +kernel
theorem dX3_readWord_121 : decode cX3_readWord 121 = .ok (.getfield 87, 3) := by decide +kernel
theorem dX3_readWord_124 : decode cX3_readWord 124 = .ok (.isub, 1) := by decide +kernel
theorem dX3_readWord_125 : decode cX3_readWord 125 = .ok (.iconst 5, 1) := by decide +kernel
theorem dX3_readWord_126 : decode cX3_readWord 126 = .ok (.if_icmp .gt 11, 3) := by decide +kernel
theorem dX3_readWord_129 : decode cX3_readWord 129 = .ok (.aload_n 0, 1) := by decide +kernel
theorem dX3_readWord_130 : decode cX3_readWord 130 = .ok (.iconst 2, 1) := by decide +kernel
theorem dX3_readWord_131 : decode cX3_readWord 131 = .ok (.putfield 64, 3) := by decide +kernel
theorem dX3_readWord_134 : decode cX3_readWord 134 = .ok (.goto 29, 3) := by decide +kernel
theorem dX3_readWord_137 : decode cX3_readWord 137 = .ok (.iload_n 1, 1) := by decide +kernel
theorem dX3_readWord_138 : decode cX3_readWord 138 = .ok (.ifCond .eq 25, 3) := by decide +kernel
theorem dX3_readWord_141 : decode cX3_readWord 141 = .ok (.aload_n 0, 1) := by decide +kernel
theorem dX3_readWord_142 : decode cX3_readWord 142 = .ok (.getfield 46, 3) := by decide +kernel
theorem dX3_readWord_145 : decode cX3_readWord 145 = .ok (.aload_n 0, 1) := by decide +kernel
theorem dX3_readWord_146 : decode cX3_readWord 146 = .ok (.getfield 87, 3) := by decide +kernel
theorem dX3_readWord_149 : decode cX3_readWord 149 = .ok (.isub, 1) := by decide +kernel
theorem dX3_readWord_150 : decode cX3_readWord 150 = .ok (.ldc 160, 2) := by decide +kernel
theorem dX3_readWord_152 : decode cX3_readWord 152 = .ok (.invokevirtual 162, 3) := by decide +kernel
theorem dX3_readWord_155 : decode cX3_readWord 155 = .ok (.if_icmp .ne 8, 3) := by decide +kernel
theorem dX3_readWord_158 : decode cX3_readWord 158 = .ok (.aload_n 0, 1) := by decide +kernel
theorem dX3_readWord_159 : decode cX3_readWord 159 = .ok (.iconst 4, 1) := by decide +kernel
theorem dX3_readWord_160 : decode cX3_readWord 160 = .ok (.putfield 64, 3) := by decide +kernel
theorem dX3_readWord_163 : decode cX3_readWord 163 = .ok (.return_, 1) := by decide +kernel
set_option maxRecDepth 20000 in
theorem ggX3_readDigits_X3_byteAt : GoodIn wsX3_readDigits wsX3_byteAt := goodIn_r _ [10, 3, 11, 15, 16, 17, 18, 19, 20, 21, 22, 23, 24, 25, 26, 27, 28] (by decide +kernel) (by decide +kernel)
set_option maxRecDepth 20000 in
theorem gX3_readDigits_X3_byteAt : GoodIn wsX3_readDigits (wsV RX3 138 RX3 yX3_byteAt wsX3_byteAt) := goodIn_app (goodIn_of _ (by decide +kernel)) ggX3_readDigits_X3_byteAt
set_option maxRecDepth 20000 in
theorem ggX3_readDigits_X3_isDigit : GoodIn wsX3_readDigits wsX3_isDigit := goodIn_r _ [14] (by decide +kernel) (by decide +kernel)
set_option maxRecDepth 20000 in
theorem gX3_readDigits_X3_isDigit : GoodIn wsX3_readDigits (va_wsS RX3 147 yX3_isDigit wsX3_isDigit) := goodIn_app (goodIn_of _ (by decide +kernel)) ggX3_readDigits_X3_isDigit
theorem dX3_readDigits_0 : decode cX3_readDigits 0 = .ok (.aload_n 0, 1) := by decide +kernel
theorem dX3_readDigits_1 : decode cX3_readDigits 1 = .ok (.iconst 0, 1) := by decide +kernel
theorem dX3_readDigits_2 : decode cX3_readDigits 2 = .ok (.putfield 84, 3) := by decide +kernel
theorem dX3_readDigits_5 : decode cX3_readDigits 5 = .ok (.aload_n 0, 1) := by decide +kernel
theorem dX3_readDigits_6 : decode cX3_readDigits 6 = .ok (.getfield 46, 3) := by decide +kernel
theorem dX3_readDigits_9 : decode cX3_readDigits 9 = .ok (.aload_n 0, 1) := by decide +kernel
theorem dX3_readDigits_10 : decode cX3_readDigits 10 = .ok (.getfield 42, 3) := by decide +kernel
theorem dX3_readDigits_13 : decode cX3_readDigits 13 = .ok (.if_icmp .ge 53, 3) := by decide +kernel
theorem dX3_readDigits_16 : decode cX3_readDigits 16 = .ok (.aload_n 0, 1) := by decide +kernel
theorem dX3_readDigits_17 : decode cX3_readDigits 17 = .ok (.aload_n 0, 1) := by decide +kernel
theorem dX3_readDigits_18 : decode cX3_readDigits 18 = .ok (.getfield 46, 3) := by decide +kernel
theorem dX3_readDigits_21 : decode cX3_readDigits 21 = .ok (.invokevirtual 138, 3) := by decide +kernel
theorem dX3_readDigits_24 : decode cX3_readDigits 24 = .ok (.invokestatic 147, 3) := by decide +kernel
theorem dX3_readDigits_27 : decode cX3_readDigits 27 = .ok (.ifCond .eq 39, 3) := by decide +kernel
theorem dX3_readDigits_30 : decode cX3_readDigits 30 = .ok (.aload_n 0, 1) := by decide +kernel
theorem dX3_readDigits_31 : decode cX3_readDigits 31 = .ok (.bipush 10, 2) := by decide +kernel
theorem dX3_readDigits_33 : decode cX3_readDigits 33 = .ok (.aload_n 0, 1) := by decide +kernel
theorem dX3_readDigits_34 : decode cX3_readDigits 34 = .ok (.getfield 84, 3) := by decide +kernel
theorem dX3_readDigits_37 : decode cX3_readDigits 37 = .ok (.imul, 1) := by decide +kernel
theorem dX3_readDigits_38 : decode cX3_readDigits 38 = .ok (.aload_n 0, 1) := by decide +kernel
theorem dX3_readDigits_39 : decode cX3_readDigits 39 = .ok (.aload_n 0, 1) := by decide +kernel
theorem dX3_readDigits_40 : decode cX3_readDigits 40 = .ok (.getfield 46, 3) := by decide +kernel
theorem dX3_readDigits_43 : decode cX3_readDigits 43 = .ok (.invokevirtual 138, 3) := by decide +kernel
theorem dX3_readDigits_46 : decode cX3_readDigits 46 = .ok (.iadd, 1) := by decide +kernel
theorem dX3_readDigits_47 : decode cX3_readDigits 47 = .ok (.bipush 48, 2) := by decide +kernel
theorem dX3_readDigits_49 : decode cX3_readDigits 49 = .ok (.isub, 1) := by decide +kernel
theorem dX3_readDigits_50 : decode cX3_readDigits 50 = .ok (.putfield 84, 3) := by decide +kernel
theorem dX3_readDigits_53 : decode cX3_readDigits 53 = .ok (.aload_n 0, 1) := by decide +kernel
theorem dX3_readDigits_54 : decode cX3_readDigits 54 = .ok (.dup, 1) := by decide +kernel
theorem dX3_readDigits_55 : decode cX3_readDigits 55 = .ok (.getfield 46, 3) := by decide +kernel
theorem dX3_readDigits_58 : decode cX3_readDigits 58 = .ok (.iconst 1, 1) := by decide +kernel
theorem dX3_readDigits_59 : decode cX3_readDigits 59 = .ok (.iadd, 1) := by decide +kernel
theorem dX3_readDigits_60 : decode cX3_readDigits 60 = .ok (.putfield 46, 3) := by decide +kernel
theorem dX3_readDigits_63 : decode cX3_readDigits 63 = .ok (.goto (-58), 3) := by decide +kernel
theorem dX3_readDigits_66 : decode cX3_readDigits 66 = .ok (.aload_n 0, 1) := by decide +kernel
theorem dX3_readDigits_67 : decode cX3_readDigits 67 = .ok (.getfield 46, 3) := by decide +kernel
theorem dX3_readDigits_70 : decode cX3_readDigits 70 = .ok (.aload_n 0, 1) := by decide +kernel
theorem dX3_readDigits_71 : decode cX3_readDigits 71 = .ok (.getfield 87, 3) := by decide +kernel
theorem dX3_readDigits_74 : decode cX3_readDigits 74 = .ok (.isub, 1) := by decide +kernel
theorem dX3_readDigits_75 : decode cX3_readDigits 75 = .ok (.iconst 3, 1) := by decide +kernel
theorem dX3_readDigits_76 : decode cX3_readDigits 76 = .ok (.if_icmp .gt 8, 3) := by decide +kernel
theorem dX3_readDigits_79 : decode cX3_readDigits 79 = .ok (.aload_n 0, 1) := by decide +kernel
theorem dX3_readDigits_80 : decode cX3_readDigits 80 = .ok (.iconst 3, 1) := by decide +kernel
theorem dX3_readDigits_81 : decode cX3_readDigits 81 = .ok (.putfield 64, 3) := by decide +kernel
theorem dX3_readDigits_84 : decode cX3_readDigits 84 = .ok (.return_, 1) := by decide +kernel
theorem dX3_byteAt_0 : decode cX3_byteAt 0 = .ok (.iload_n 1, 1) := by decide +kernel
theorem dX3_byteAt_1 : decode cX3_byteAt 1 = .ok (.ifCond .lt 29, 3) := by decide +kernel
theorem dX3_byteAt_4 : decode cX3_byteAt 4 = .ok (.iload_n 1, 1) := by decide +kernel
theorem dX3_byteAt_5 : decode cX3_byteAt 5 = .ok (.aload_n 0, 1) := by decide +kernel
theorem dX3_byteAt_6 : decode cX3_byteAt 6 = .ok (.getfield 42, 3) := by decide +kernel
theorem dX3_byteAt_9 : decode cX3_byteAt 9 = .ok (.if_icmp .ge 21, 3) := by decide +kernel
theorem dX3_byteAt_12 : decode cX3_byteAt 12 = .ok (.iload_n 1, 1) := by decide +kernel
theorem dX3_byteAt_13 : decode cX3_byteAt 13 = .ok (.aload_n 0, 1) := by decide +kernel
theorem dX3_byteAt_14 : decode cX3_byteAt 14 = .ok (.getfield 20, 3) := by decide +kernel
theorem dX3_byteAt_17 : decode cX3_byteAt 17 = .ok (.arraylength, 1) := by decide +kernel
theorem dX3_byteAt_18 : decode cX3_byteAt 18 = .ok (.if_icmp .ge 12, 3) := by decide +kernel
theorem dX3_byteAt_21 : decode cX3_byteAt 21 = .ok (.aload_n 0, 1) := by decide +kernel
theorem dX3_byteAt_22 : decode cX3_byteAt 22 = .ok (.getfield 20, 3) := by decide +kernel
theorem dX3_byteAt_25 : decode cX3_byteAt 25 = .ok (.iload_n 1, 1) := by decide +kernel
theorem dX3_byteAt_26 : decode cX3_byteAt 26 = .ok (.iaload, 1) := by decide +kernel
theorem dX3_byteAt_27 : decode cX3_byteAt 27 = .ok (.goto 4, 3) := by decide +kernel
theorem dX3_byteAt_30 : decode cX3_byteAt 30 = .ok (.iconst (-1), 1) := by decide +kernel
theorem dX3_byteAt_31 : decode cX3_byteAt 31 = .ok (.ireturn, 1) := by decide +kernel
theorem dX3_isLetter_0 : decode cX3_isLetter 0 = .ok (.iload_n 0, 1) := by decide +kernel
theorem dX3_isLetter_1 : decode cX3_isLetter 1 = .ok (.bipush 97, 2) := by decide +kernel
theorem dX3_isLetter_3 : decode cX3_isLetter 3 = .ok (.if_icmp .lt 13, 3) := by decide +kernel
theorem dX3_isLetter_6 : decode cX3_isLetter 6 = .ok (.iload_n 0, 1) := by decide +kernel
theorem dX3_isLetter_7 : decode cX3_isLetter 7 = .ok (.bipush 122, 2) := by decide +kernel
theorem dX3_isLetter_9 : decode cX3_isLetter 9 = .ok (.if_icmp .gt 7, 3) := by decide +kernel
theorem dX3_isLetter_12 : decode cX3_isLetter 12 = .ok (.iconst 1, 1) := by decide +kernel
theorem dX3_isLetter_13 : decode cX3_isLetter 13 = .ok (.goto 4, 3) := by decide +kernel
theorem dX3_isLetter_16 : decode cX3_isLetter 16 = .ok (.iconst 0, 1) := by decide +kernel
theorem dX3_isLetter_17 : decode cX3_isLetter 17 = .ok (.ireturn, 1) := by decide +kernel
theorem dX3_isDigit_0 : decode cX3_isDigit 0 = .ok (.iload_n 0, 1) := by decide +kernel
theorem dX3_isDigit_1 : decode cX3_isDigit 1 = .ok (.bipush 48, 2) := by decide +kernel
theorem dX3_isDigit_3 : decode cX3_isDigit 3 = .ok (.if_icmp .lt 13, 3) := by decide +kernel
theorem dX3_isDigit_6 : decode cX3_isDigit 6 = .ok (.iload_n 0, 1) := by decide +kernel
theorem dX3_isDigit_7 : decode cX3_isDigit 7 = .ok (.bipush 57, 2) := by decide +kernel
theorem dX3_isDigit_9 : decode cX3_isDigit 9 = .ok (.if_icmp .gt 7, 3) := by decide +kernel
theorem dX3_isDigit_12 : decode cX3_isDigit 12 = .ok (.iconst 1, 1) := by decide +kernel
theorem dX3_isDigit_13 : decode cX3_isDigit 13 = .ok (.goto 4, 3) := by decide +kernel
theorem dX3_isDigit_16 : decode cX3_isDigit 16 = .ok (.iconst 0, 1) := by decide +kernel
theorem dX3_isDigit_17 : decode cX3_isDigit 17 = .ok (.ireturn, 1) := by decide +kernel
