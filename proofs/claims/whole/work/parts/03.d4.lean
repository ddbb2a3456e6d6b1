set_option maxRecDepth 20000 in
theorem ggX4_init_X0_init : GoodIn wsX4_init wsX0_init := goodIn_r _ [29, 30, 2, 3, 4, 31, 32, 33, 34, 35, 36, 37, 38, 39, 40, 41, 42, 43, 44, 45, 46, 47, 48, 49, 50, 51, 52, 8, 53, 54, 55, 56, 57, 58, 59, 60, 61, 62, 63, 64, 65, 66, 67, 68, 69, 70, 71, 72, 73, 74, 75, 76, 108, 109, 110, 111, 112, 113, 114, 115, 116, 117, 118, 119, 120, 121, 122, 145, 146] (by decide +kernel) (by decide +kernel)
set_option maxRecDepth 20000 in
theorem gX4_init_X0_init : GoodIn wsX4_init (wsX0_init) := ggX4_init_X0_init
set_option maxRecDepth 20000 in
theorem ggX4_init_X3_init : GoodIn wsX4_init wsX3_init := goodIn_r _ [78, 79, 2, 3, 80, 7, 8, 81, 4, 82, 83, 84, 85, 86, 87, 28, 29, 30, 31, 32, 33, 34, 35, 36, 37, 38, 39, 40, 41, 42, 43, 44, 45, 46, 47, 48, 49, 50, 51, 52, 53, 54, 55, 56, 57, 58, 59, 60, 61, 62, 63, 64, 65, 66, 67, 68, 69, 70, 71, 72, 73, 74, 75, 76, 108, 109, 110, 111, 112, 113, 114, 115, 116, 117, 118, 119, 120, 121, 122, 123, 124, 125, 126, 127, 128, 129, 130, 131, 132, 133, 134, 135, 136, 145, 146] (by decide +kernel) (by decide +kernel)
set_option maxRecDepth 20000 in
theorem gX4_init_X3_init_n27 : GoodIn wsX4_init (wsX3_init) := ggX4_init_X3_init
set_option maxRecDepth 20000 in
theorem ggX4_init_X2_init : GoodIn wsX4_init wsX2_init := goodIn_r _ [89, 90, 2, 3, 4, 91, 92, 93, 94, 95, 137, 138, 139, 140, 141, 142, 143, 144] (by decide +kernel) (by decide +kernel)
set_option maxRecDepth 20000 in
theorem gX4_init_X2_init_n34 : GoodIn wsX4_init (wsX2_init) := ggX4_init_X2_init
theorem dX4_init_0 : decode cX4_init 0 = .ok (.aload_n 0, 1) := by decide +kernel
theorem dX4_init_1 : decode cX4_init 1 = .ok (.invokespecial 3, 3) := by decide +kernel
theorem dX4_init_4 : decode cX4_init 4 = .ok (.aload_n 0, 1) := by decide +kernel
theorem dX4_init_5 : decode cX4_init 5 = .ok (.sipush 500, 3) := by decide +kernel
theorem dX4_init_8 : decode cX4_init 8 = .ok (.newarray .int, 2) := by decide +kernel
theorem dX4_init_10 : decode cX4_init 10 = .ok (.putfield 9, 3) := by decide +kernel
theorem dX4_init_13 : decode cX4_init 13 = .ok (.aload_n 0, 1) := by decide +kernel
theorem dX4_init_14 : decode cX4_init 14 = .ok (.new 13, 3) := by decide +kernel
theorem dX4_init_17 : decode cX4_init 17 = .ok (.dup, 1) := by decide +kernel
theorem dX4_init_18 : decode cX4_init 18 = .ok (.iconst 4, 1) := by decide +kernel
theorem dX4_init_19 : decode cX4_init 19 = .ok (.invokespecial 15, 3) := by decide +kernel
theorem dX4_init_22 : decode cX4_init 22 = .ok (.putfield 18, 3) := by decide +kernel
theorem dX4_init_25 : decode cX4_init 25 = .ok (.aload_n 0, 1) := by decide +kernel
theorem dX4_init_26 : decode cX4_init 26 = .ok (.new 13, 3) := by decide +kernel
theorem dX4_init_29 : decode cX4_init 29 = .ok (.dup, 1) := by decide +kernel
theorem dX4_init_30 : decode cX4_init 30 = .ok (.iconst 4, 1) := by decide +kernel
theorem dX4_init_31 : decode cX4_init 31 = .ok (.invokespecial 15, 3) := by decide +kernel
theorem dX4_init_34 : decode cX4_init 34 = .ok (.putfield 22, 3) := by decide +kernel
theorem dX4_init_37 : decode cX4_init 37 = .ok (.aload_n 0, 1) := by decide +kernel
theorem dX4_init_38 : decode cX4_init 38 = .ok (.new 25, 3) := by decide +kernel
theorem dX4_init_41 : decode cX4_init 41 = .ok (.dup, 1) := by decide +kernel
theorem dX4_init_42 : decode cX4_init 42 = .ok (.invokespecial 27, 3) := by decide +kernel
theorem dX4_init_45 : decode cX4_init 45 = .ok (.putfield 28, 3) := by decide +kernel
theorem dX4_init_48 : decode cX4_init 48 = .ok (.aload_n 0, 1) := by decide +kernel
theorem dX4_init_49 : decode cX4_init 49 = .ok (.new 32, 3) := by decide +kernel
theorem dX4_init_52 : decode cX4_init 52 = .ok (.dup, 1) := by decide +kernel
theorem dX4_init_53 : decode cX4_init 53 = .ok (.invokespecial 34, 3) := by decide +kernel
theorem dX4_init_56 : decode cX4_init 56 = .ok (.putfield 35, 3) := by decide +kernel
theorem dX4_init_59 : decode cX4_init 59 = .ok (.aload_n 0, 1) := by decide +kernel
theorem dX4_init_60 : decode cX4_init 60 = .ok (.new 32, 3) := by decide +kernel
theorem dX4_init_63 : decode cX4_init 63 = .ok (.dup, 1) := by decide +kernel
theorem dX4_init_64 : decode cX4_init 64 = .ok (.invokespecial 34, 3) := by decide +kernel
theorem dX4_init_67 : decode cX4_init 67 = .ok (.putfield 39, 3) := by decide +kernel
theorem dX4_init_70 : decode cX4_init 70 = .ok (.aload_n 0, 1) := by decide +kernel
theorem dX4_init_71 : decode cX4_init 71 = .ok (.iconst 2, 1) := by decide +kernel
theorem dX4_init_72 : decode cX4_init 72 = .ok (.anewarray 13, 3) := by decide +kernel
theorem dX4_init_75 : decode cX4_init 75 = .ok (.putfield 42, 3) := by decide +kernel
theorem dX4_init_78 : decode cX4_init 78 = .ok (.aload_n 0, 1) := by decide +kernel
theorem dX4_init_79 : decode cX4_init 79 = .ok (.iconst 2, 1) := by decide +kernel
theorem dX4_init_80 : decode cX4_init 80 = .ok (.newarray .boolean, 2) := by decide +kernel
theorem dX4_init_82 : decode cX4_init 82 = .ok (.putfield 46, 3) := by decide +kernel
theorem dX4_init_85 : decode cX4_init 85 = .ok (.aload_n 0, 1) := by decide +kernel
theorem dX4_init_86 : decode cX4_init 86 = .ok (.bipush 12, 2) := by decide +kernel
theorem dX4_init_88 : decode cX4_init 88 = .ok (.anewarray 13, 3) := by decide +kernel
theorem dX4_init_91 : decode cX4_init 91 = .ok (.putfield 50, 3) := by decide +kernel
theorem dX4_init_94 : decode cX4_init 94 = .ok (.aload_n 0, 1) := by decide +kernel
theorem dX4_init_95 : decode cX4_init 95 = .ok (.iconst 0, 1) := by decide +kernel
theorem dX4_init_96 : decode cX4_init 96 = .ok (.putfield 53, 3) := by decide +kernel
theorem dX4_init_99 : decode cX4_init 99 = .ok (.aload_n 0, 1) := by decide +kernel
theorem dX4_init_100 : decode cX4_init 100 = .ok (.iconst 0, 1) := by decide +kernel
theorem dX4_init_101 : decode cX4_init 101 = .ok (.putfield 57, 3) := by decide +kernel
theorem dX4_init_104 : decode cX4_init 104 = .ok (.aload_n 0, 1) := by decide +kernel
theorem dX4_init_105 : decode cX4_init 105 = .ok (.iconst 0, 1) := by decide +kernel
theorem dX4_init_106 : decode cX4_init 106 = .ok (.putfield 60, 3) := by decide +kernel
theorem dX4_init_109 : decode cX4_init 109 = .ok (.return_, 1) := by decide +kernel
set_option maxRecDepth 20000 in
theorem ggX4_feed_X4_feedBytes : GoodIn wsX4_feed wsX4_feedBytes := goodIn_r _ [6, 1, 7, 8, 9, 10, 11, 12, 13, 14, 15, 16, 17, 18, 19] (by decide +kernel) (by decide +kernel)
set_option maxRecDepth 20000 in
theorem gX4_feed_X4_feedBytes : GoodIn wsX4_feed (wsV RX4 63 RX4 yX4_feedBytes wsX4_feedBytes) := goodIn_app (goodIn_of _ (by decide +kernel)) ggX4_feed_X4_feedBytes
theorem dX4_feed_0 : decode cX4_feed 0 = .ok (.aload_n 0, 1) := by decide +kernel
theorem dX4_feed_1 : decode cX4_feed 1 = .ok (.getfield 53, 3) := by decide +kernel
theorem dX4_feed_4 : decode cX4_feed 4 = .ok (.bipush 20, 2) := by decide +kernel
theorem dX4_feed_6 : decode cX4_feed 6 = .ok (.iadd, 1) := by decide +kernel
theorem dX4_feed_7 : decode cX4_feed 7 = .ok (.sipush 500, 3) := by decide +kernel
theorem dX4_feed_10 : decode cX4_feed 10 = .ok (.if_icmp .le 5, 3) := by decide +kernel
theorem dX4_feed_13 : decode cX4_feed 13 = .ok (.iconst (-1), 1) := by decide +kernel
theorem dX4_feed_14 : decode cX4_feed 14 = .ok (.ireturn, 1) := by decide +kernel
theorem dX4_feed_15 : decode cX4_feed 15 = .ok (.aload_n 0, 1) := by decide +kernel
theorem dX4_feed_16 : decode cX4_feed 16 = .ok (.iload_n 1, 1) := by decide +kernel
theorem dX4_feed_17 : decode cX4_feed 17 = .ok (.invokevirtual 63, 3) := by decide +kernel
theorem dX4_feed_20 : decode cX4_feed 20 = .ok (.aload_n 0, 1) := by decide +kernel
theorem dX4_feed_21 : decode cX4_feed 21 = .ok (.iload_n 2, 1) := by decide +kernel
theorem dX4_feed_22 : decode cX4_feed 22 = .ok (.invokevirtual 63, 3) := by decide +kernel
theorem dX4_feed_25 : decode cX4_feed 25 = .ok (.aload_n 0, 1) := by decide +kernel
theorem dX4_feed_26 : decode cX4_feed 26 = .ok (.iload_n 3, 1) := by decide +kernel
theorem dX4_feed_27 : decode cX4_feed 27 = .ok (.invokevirtual 63, 3) := by decide +kernel
theorem dX4_feed_30 : decode cX4_feed 30 = .ok (.aload_n 0, 1) := by decide +kernel
theorem dX4_feed_31 : decode cX4_feed 31 = .ok (.iload 4, 2) := by decide +kernel
theorem dX4_feed_33 : decode cX4_feed 33 = .ok (.invokevirtual 63, 3) := by decide +kernel
theorem dX4_feed_36 : decode cX4_feed 36 = .ok (.aload_n 0, 1) := by decide +kernel
theorem dX4_feed_37 : decode cX4_feed 37 = .ok (.iload 5, 2) := by decide +kernel
theorem dX4_feed_39 : decode cX4_feed 39 = .ok (.invokevirtual 63, 3) := by decide +kernel
theorem dX4_feed_42 : decode cX4_feed 42 = .ok (.aload_n 0, 1) := by decide +kernel
theorem dX4_feed_43 : decode cX4_feed 43 = .ok (.getfield 53, 3) := by decide +kernel
theorem dX4_feed_46 : decode cX4_feed 46 = .ok (.ireturn, 1) := by decide +kernel
set_option maxRecDepth 20000 in
theorem ggX4_net_X3_read : GoodIn wsX4_net wsX3_read := goodIn_r _ [9, 10, 11, 12, 13, 14, 15, 16, 17, 18, 19, 20, 21, 22, 23, 24, 25, 26, 27, 28, 29, 30, 31, 32, 33, 34, 35, 36, 37, 38, 39, 40, 41, 42, 43, 44, 45, 46, 47, 48, 49, 50, 51, 52, 53, 54, 55, 56, 57, 58, 59, 60, 8, 61, 62, 63, 64, 65, 66, 67, 68, 69, 70, 71, 72, 73, 74, 75, 76, 77, 78, 79, 80, 81, 82, 83, 84, 85, 86, 87, 88, 89, 90, 91, 92, 93, 94, 95, 96, 97, 98, 99, 100, 101, 102, 103, 104, 105, 106, 107, 108, 109, 110, 111, 112, 113, 114, 115, 116, 117, 118, 119, 120, 121, 122, 123, 124, 125, 126, 127, 128, 129, 130, 131, 132, 133, 134, 135, 136, 137, 138, 139, 140, 141, 142, 143, 144, 145, 146, 147, 148, 149, 150, 151, 152, 153, 154, 155, 156, 157, 158, 159, 160, 161, 162, 163, 164, 165, 166, 167, 168, 169, 170, 171, 172, 173, 174, 175, 176, 177, 178, 179, 180, 181, 182, 183, 184, 185, 186, 187, 188, 189, 190, 191, 192, 193, 194, 195, 196, 197, 198, 199, 200, 201, 202, 203, 204, 205, 206, 207, 208, 209, 210, 211, 212, 213, 214, 215, 216, 217, 218, 219, 220, 221, 222, 223, 224, 225, 226, 227, 228, 229, 230, 231, 232, 233, 234, 235, 236, 237, 238, 239, 240, 241, 242, 243, 244, 245, 246, 247, 248, 249, 250, 251, 252, 253, 254, 255, 256, 257, 258, 259, 260, 261, 262, 263, 264, 265, 266, 267, 268, 269, 270, 271, 272, 273, 274, 275, 276, 277, 278, 279, 280, 281, 282, 283, 284, 285, 286, 287, 288, 289, 327, 328, 329, 330, 331, 332, 333, 334, 335, 336, 337, 338, 339, 340, 341, 342, 343, 344, 345, 346, 347, 348, 349, 350, 351, 352, 353, 354, 355, 356, 357] (by decide +kernel) (by decide +kernel)
set_option maxRecDepth 20000 in
theorem gX4_net_X3_read : GoodIn wsX4_net (wsV RX4 66 RX3 yX3_read wsX3_read) := goodIn_app (goodIn_of _ (by decide +kernel)) ggX4_net_X3_read
set_option maxRecDepth 20000 in
theorem ggX4_net_X0_become : GoodIn wsX4_net wsX0_become := goodIn_r _ [293, 27, 294, 295, 296, 297, 28, 234, 29, 30, 35, 36, 37, 38, 39, 40, 41, 42, 298, 299, 300, 51, 301, 53, 302, 54, 341, 342, 343, 344, 345, 346, 347, 348, 349, 350, 351, 352, 353, 354, 355, 356, 357] (by decide +kernel) (by decide +kernel)
set_option maxRecDepth 20000 in
theorem gX4_net_X0_become : GoodIn wsX4_net (wsV RX4 73 RX0 yX0_become wsX0_become) := goodIn_app (goodIn_of _ (by decide +kernel)) ggX4_net_X0_become
set_option maxRecDepth 20000 in
theorem ggX4_net_X4_forgetImages : GoodIn wsX4_net wsX4_forgetImages := goodIn_r _ [307, 308, 315, 316, 317, 318, 319, 320, 321, 322, 323, 324, 325, 326] (by decide +kernel) (by decide +kernel)
set_option maxRecDepth 20000 in
theorem gX4_net_X4_forgetImages : GoodIn wsX4_net (wsV RX4 77 RX4 yX4_forgetImages wsX4_forgetImages) := goodIn_app (goodIn_of _ (by decide +kernel)) ggX4_net_X4_forgetImages
set_option maxRecDepth 20000 in
theorem ggX4_net_X4_forgetPast : GoodIn wsX4_net wsX4_forgetPast := goodIn_r _ [312, 313, 314, 315, 316, 317, 318, 319, 320, 321, 322, 323, 324, 325, 326] (by decide +kernel) (by decide +kernel)
set_option maxRecDepth 20000 in
theorem gX4_net_X4_forgetPast : GoodIn wsX4_net (wsV RX4 80 RX4 yX4_forgetPast wsX4_forgetPast) := goodIn_app (goodIn_of _ (by decide +kernel)) ggX4_net_X4_forgetPast
theorem dX4_net_0 : decode cX4_net 0 = .ok (.iload_n 1, 1) := by decide +kernel
theorem dX4_net_1 : decode cX4_net 1 = .ok (.ifCond .lt 11, 3) := by decide +kernel
theorem dX4_net_4 : decode cX4_net 4 = .ok (.iload_n 1, 1) := by decide +kernel
theorem dX4_net_5 : decode cX4_net 5 = .ok (.aload_n 0, 1) := by decide +kernel
theorem dX4_net_6 : decode cX4_net 6 = .ok (.getfield 53, 3) := by decide +kernel
theorem dX4_net_9 : decode cX4_net 9 = .ok (.if_icmp .le 5, 3) := by decide +kernel
theorem dX4_net_12 : decode cX4_net 12 = .ok (.iconst (-1), 1) := by decide +kernel
theorem dX4_net_13 : decode cX4_net 13 = .ok (.ireturn, 1) := by decide +kernel
theorem dX4_net_14 : decode cX4_net 14 = .ok (.aload_n 0, 1) := by decide +kernel
theorem dX4_net_15 : decode cX4_net 15 = .ok (.iconst 0, 1) := by decide +kernel
theorem dX4_net_16 : decode cX4_net 16 = .ok (.putfield 53, 3) := by decide +kernel
theorem dX4_net_19 : decode cX4_net 19 = .ok (.aload_n 0, 1) := by decide +kernel
theorem dX4_net_20 : decode cX4_net 20 = .ok (.getfield 28, 3) := by decide +kernel
theorem dX4_net_23 : decode cX4_net 23 = .ok (.aload_n 0, 1) := by decide +kernel
theorem dX4_net_24 : decode cX4_net 24 = .ok (.getfield 9, 3) := by decide +kernel
theorem dX4_net_27 : decode cX4_net 27 = .ok (.iload_n 1, 1) := by decide +kernel
theorem dX4_net_28 : decode cX4_net 28 = .ok (.invokevirtual 66, 3) := by decide +kernel
theorem dX4_net_31 : decode cX4_net 31 = .ok (.istore_n 2, 1) := by decide +kernel
theorem dX4_net_32 : decode cX4_net 32 = .ok (.iload_n 2, 1) := by decide +kernel
theorem dX4_net_33 : decode cX4_net 33 = .ok (.ifCond .eq 5, 3) := by decide +kernel
theorem dX4_net_36 : decode cX4_net 36 = .ok (.iload_n 2, 1) := by decide +kernel
theorem dX4_net_37 : decode cX4_net 37 = .ok (.ireturn, 1) := by decide +kernel
theorem dX4_net_38 : decode cX4_net 38 = .ok (.aload_n 0, 1) := by decide +kernel
theorem dX4_net_39 : decode cX4_net 39 = .ok (.getfield 18, 3) := by decide +kernel
theorem dX4_net_42 : decode cX4_net 42 = .ok (.aload_n 0, 1) := by decide +kernel
theorem dX4_net_43 : decode cX4_net 43 = .ok (.getfield 28, 3) := by decide +kernel
theorem dX4_net_46 : decode cX4_net 46 = .ok (.getfield 70, 3) := by decide +kernel
theorem dX4_net_49 : decode cX4_net 49 = .ok (.invokevirtual 73, 3) := by decide +kernel
theorem dX4_net_52 : decode cX4_net 52 = .ok (.aload_n 0, 1) := by decide +kernel
theorem dX4_net_53 : decode cX4_net 53 = .ok (.invokevirtual 77, 3) := by decide +kernel
theorem dX4_net_56 : decode cX4_net 56 = .ok (.aload_n 0, 1) := by decide +kernel
theorem dX4_net_57 : decode cX4_net 57 = .ok (.invokevirtual 80, 3) := by decide +kernel
theorem dX4_net_60 : decode cX4_net 60 = .ok (.aload_n 0, 1) := by decide +kernel
theorem dX4_net_61 : decode cX4_net 61 = .ok (.getfield 18, 3) := by decide +kernel
theorem dX4_net_64 : decode cX4_net 64 = .ok (.getfield 83, 3) := by decide +kernel
theorem dX4_net_67 : decode cX4_net 67 = .ok (.ireturn, 1) := by decide +kernel
set_option maxRecDepth 20000 in
theorem ggX4_count_X1_size : GoodIn wsX4_count wsX1_size := goodIn_r _ [8, 9, 10, 11, 7, 12, 13, 14, 15, 16, 17, 18, 19, 20, 21, 77, 78] (by decide +kernel) (by decide +kernel)
set_option maxRecDepth 20000 in
theorem gX4_count_X1_size : GoodIn wsX4_count (wsV RX4 99 RX1 yX1_size wsX1_size) := goodIn_app (goodIn_of _ (by decide +kernel)) ggX4_count_X1_size
set_option maxRecDepth 20000 in
theorem ggX4_count_X0_readyPairs : GoodIn wsX4_count wsX0_readyPairs := goodIn_r _ [26, 27, 28, 29, 30, 25, 31, 32, 33, 34, 5, 6, 7, 8, 9, 10, 11, 12, 13, 14, 15, 16, 17, 18, 19, 20, 21, 62, 63, 64, 65, 66, 67, 68, 69, 70, 71, 72, 73, 74, 75, 76, 77, 78] (by decide +kernel) (by decide +kernel)
set_option maxRecDepth 20000 in
theorem gX4_count_X0_readyPairs : GoodIn wsX4_count (wsV RX4 105 RX0 yX0_readyPairs wsX0_readyPairs) := goodIn_app (goodIn_of _ (by decide +kernel)) ggX4_count_X0_readyPairs
set_option maxRecDepth 20000 in
theorem ggX4_count_X0_rootsThere : GoodIn wsX4_count wsX0_rootsThere := goodIn_r _ [38, 39, 40, 41, 25, 42, 43, 62, 63, 64, 65, 66, 67, 68, 69, 70, 71, 72, 73, 74, 75, 76] (by decide +kernel) (by decide +kernel)
set_option maxRecDepth 20000 in
theorem gX4_count_X0_rootsThere : GoodIn wsX4_count (wsV RX4 109 RX0 yX0_rootsThere wsX0_rootsThere) := goodIn_app (goodIn_of _ (by decide +kernel)) ggX4_count_X0_rootsThere
set_option maxRecDepth 20000 in
theorem ggX4_count_X4_imagesHeld : GoodIn wsX4_count wsX4_imagesHeld := goodIn_r _ [48, 49, 50, 51, 52, 53, 54, 55, 56, 57, 58, 59, 60, 61] (by decide +kernel) (by decide +kernel)
set_option maxRecDepth 20000 in
theorem gX4_count_X4_imagesHeld : GoodIn wsX4_count (wsV RX4 124 RX4 yX4_imagesHeld wsX4_imagesHeld) := goodIn_app (goodIn_of _ (by decide +kernel)) ggX4_count_X4_imagesHeld
theorem dX4_count_0 : decode cX4_count 0 = .ok (.iload_n 1, 1) := by decide +kernel
theorem dX4_count_1 : decode cX4_count 1 = .ok (.tableswitch 180 0 13 #[71, 79, 87, 95, 103, 115, 123, 131, 139, 147, 155, 165, 170, 175], 71) := by decide +kernel
theorem dX4_count_72 : decode cX4_count 72 = .ok (.aload_n 0, 1) := by decide +kernel
theorem dX4_count_73 : decode cX4_count 73 = .ok (.getfield 18, 3) := by decide +kernel
theorem dX4_count_76 : decode cX4_count 76 = .ok (.getfield 86, 3) := by decide +kernel
theorem dX4_count_79 : decode cX4_count 79 = .ok (.ireturn, 1) := by decide +kernel
theorem dX4_count_80 : decode cX4_count 80 = .ok (.aload_n 0, 1) := by decide +kernel
theorem dX4_count_81 : decode cX4_count 81 = .ok (.getfield 18, 3) := by decide +kernel
theorem dX4_count_84 : decode cX4_count 84 = .ok (.getfield 83, 3) := by decide +kernel
theorem dX4_count_87 : decode cX4_count 87 = .ok (.ireturn, 1) := by decide +kernel
theorem dX4_count_88 : decode cX4_count 88 = .ok (.aload_n 0, 1) := by decide +kernel
theorem dX4_count_89 : decode cX4_count 89 = .ok (.getfield 18, 3) := by decide +kernel
theorem dX4_count_92 : decode cX4_count 92 = .ok (.getfield 89, 3) := by decide +kernel
theorem dX4_count_95 : decode cX4_count 95 = .ok (.ireturn, 1) := by decide +kernel
theorem dX4_count_96 : decode cX4_count 96 = .ok (.aload_n 0, 1) := by decide +kernel
theorem dX4_count_97 : decode cX4_count 97 = .ok (.getfield 18, 3) := by decide +kernel
theorem dX4_count_100 : decode cX4_count 100 = .ok (.getfield 92, 3) := by decide +kernel
theorem dX4_count_103 : decode cX4_count 103 = .ok (.ireturn, 1) := by decide +kernel
theorem dX4_count_104 : decode cX4_count 104 = .ok (.aload_n 0, 1) := by decide +kernel
theorem dX4_count_105 : decode cX4_count 105 = .ok (.getfield 18, 3) := by decide +kernel
theorem dX4_count_108 : decode cX4_count 108 = .ok (.getfield 95, 3) := by decide +kernel
theorem dX4_count_111 : decode cX4_count 111 = .ok (.iconst 1, 1) := by decide +kernel
theorem dX4_count_112 : decode cX4_count 112 = .ok (.invokevirtual 99, 3) := by decide +kernel
theorem dX4_count_115 : decode cX4_count 115 = .ok (.ireturn, 1) := by decide +kernel
theorem dX4_count_116 : decode cX4_count 116 = .ok (.aload_n 0, 1) := by decide +kernel
theorem dX4_count_117 : decode cX4_count 117 = .ok (.getfield 18, 3) := by decide +kernel
theorem dX4_count_120 : decode cX4_count 120 = .ok (.invokevirtual 105, 3) := by decide +kernel
theorem dX4_count_123 : decode cX4_count 123 = .ok (.ireturn, 1) := by decide +kernel
theorem dX4_count_124 : decode cX4_count 124 = .ok (.aload_n 0, 1) := by decide +kernel
theorem dX4_count_125 : decode cX4_count 125 = .ok (.getfield 18, 3) := by decide +kernel
theorem dX4_count_128 : decode cX4_count 128 = .ok (.invokevirtual 109, 3) := by decide +kernel
theorem dX4_count_131 : decode cX4_count 131 = .ok (.ireturn, 1) := by decide +kernel
theorem dX4_count_132 : decode cX4_count 132 = .ok (.aload_n 0, 1) := by decide +kernel
theorem dX4_count_133 : decode cX4_count 133 = .ok (.getfield 18, 3) := by decide +kernel
theorem dX4_count_136 : decode cX4_count 136 = .ok (.getfield 112, 3) := by decide +kernel
theorem dX4_count_139 : decode cX4_count 139 = .ok (.ireturn, 1) := by decide +kernel
theorem dX4_count_140 : decode cX4_count 140 = .ok (.aload_n 0, 1) := by decide +kernel
theorem dX4_count_141 : decode cX4_count 141 = .ok (.getfield 18, 3) := by decide +kernel
theorem dX4_count_144 : decode cX4_count 144 = .ok (.getfield 115, 3) := by decide +kernel
theorem dX4_count_147 : decode cX4_count 147 = .ok (.ireturn, 1) := by decide +kernel
theorem dX4_count_148 : decode cX4_count 148 = .ok (.aload_n 0, 1) := by decide +kernel
theorem dX4_count_149 : decode cX4_count 149 = .ok (.getfield 18, 3) := by decide +kernel
theorem dX4_count_152 : decode cX4_count 152 = .ok (.getfield 118, 3) := by decide +kernel
theorem dX4_count_155 : decode cX4_count 155 = .ok (.ireturn, 1) := by decide +kernel
theorem dX4_count_156 : decode cX4_count 156 = .ok (.aload_n 0, 1) := by decide +kernel
theorem dX4_count_157 : decode cX4_count 157 = .ok (.getfield 18, 3) := by decide +kernel
theorem dX4_count_160 : decode cX4_count 160 = .ok (.getfield 121, 3) := by decide +kernel
theorem dX4_count_163 : decode cX4_count 163 = .ok (.iconst 1, 1) := by decide +kernel
theorem dX4_count_164 : decode cX4_count 164 = .ok (.isub, 1) := by decide +kernel
theorem dX4_count_165 : decode cX4_count 165 = .ok (.ireturn, 1) := by decide +kernel
theorem dX4_count_166 : decode cX4_count 166 = .ok (.aload_n 0, 1) := by decide +kernel
theorem dX4_count_167 : decode cX4_count 167 = .ok (.invokevirtual 124, 3) := by decide +kernel
theorem dX4_count_170 : decode cX4_count 170 = .ok (.ireturn, 1) := by decide +kernel
theorem dX4_count_171 : decode cX4_count 171 = .ok (.aload_n 0, 1) := by decide +kernel
theorem dX4_count_172 : decode cX4_count 172 = .ok (.getfield 60, 3) := by decide +kernel
theorem dX4_count_175 : decode cX4_count 175 = .ok (.ireturn, 1) := by decide +kernel
theorem dX4_count_176 : decode cX4_count 176 = .ok (.aload_n 0, 1) := by decide +kernel
theorem dX4_count_177 : decode cX4_count 177 = .ok (.getfield 53, 3) := by decide +kernel
theorem dX4_count_180 : decode cX4_count 180 = .ok (.ireturn, 1) := by decide +kernel
theorem dX4_count_181 : decode cX4_count 181 = .ok (.iconst (-1), 1) := by decide +kernel
theorem dX4_count_182 : decode cX4_count 182 = .ok (.ireturn, 1) := by decide +kernel
theorem dX4_rule_0 : decode cX4_rule 0 = .ok (.iload_n 1, 1) := by decide +kernel
theorem dX4_rule_1 : decode cX4_rule 1 = .ok (.ifCond .lt 21, 3) := by decide +kernel
theorem dX4_rule_4 : decode cX4_rule 4 = .ok (.iload_n 1, 1) := by decide +kernel
theorem dX4_rule_5 : decode cX4_rule 5 = .ok (.bipush 6, 2) := by decide +kernel
theorem dX4_rule_7 : decode cX4_rule 7 = .ok (.if_icmp .ge 15, 3) := by decide +kernel
theorem dX4_rule_10 : decode cX4_rule 10 = .ok (.aload_n 0, 1) := by decide +kernel
theorem dX4_rule_11 : decode cX4_rule 11 = .ok (.getfield 18, 3) := by decide +kernel
theorem dX4_rule_14 : decode cX4_rule 14 = .ok (.getfield 127, 3) := by decide +kernel
theorem dX4_rule_17 : decode cX4_rule 17 = .ok (.iload_n 1, 1) := by decide +kernel
theorem dX4_rule_18 : decode cX4_rule 18 = .ok (.iaload, 1) := by decide +kernel
theorem dX4_rule_19 : decode cX4_rule 19 = .ok (.goto 4, 3) := by decide +kernel
theorem dX4_rule_22 : decode cX4_rule 22 = .ok (.iconst (-1), 1) := by decide +kernel
theorem dX4_rule_23 : decode cX4_rule 23 = .ok (.ireturn, 1) := by decide +kernel
set_option maxRecDepth 20000 in
theorem ggX4_kind_X0_kindOf : GoodIn wsX4_kind wsX0_kindOf := goodIn_r _ [6, 7, 20, 21, 22, 23, 24, 25, 26, 27, 28, 29, 30, 31, 32, 33, 34] (by decide +kernel) (by decide +kernel)
set_option maxRecDepth 20000 in
theorem gX4_kind_X0_kindOf : GoodIn wsX4_kind (wsV RX4 130 RX0 yX0_kindOf wsX0_kindOf) := goodIn_app (goodIn_of _ (by decide +kernel)) ggX4_kind_X0_kindOf
theorem dX4_kind_0 : decode cX4_kind 0 = .ok (.aload_n 0, 1) := by decide +kernel
theorem dX4_kind_1 : decode cX4_kind 1 = .ok (.getfield 18, 3) := by decide +kernel
theorem dX4_kind_4 : decode cX4_kind 4 = .ok (.iload_n 1, 1) := by decide +kernel
theorem dX4_kind_5 : decode cX4_kind 5 = .ok (.invokevirtual 130, 3) := by decide +kernel
theorem dX4_kind_8 : decode cX4_kind 8 = .ok (.ireturn, 1) := by decide +kernel
set_option maxRecDepth 20000 in
theorem ggX4_link_X0_kindOf : GoodIn wsX4_link wsX0_kindOf := goodIn_r _ [6, 7, 25, 26, 27, 28, 29, 30, 31, 32, 33, 34, 35, 36, 37, 38, 39] (by decide +kernel) (by decide +kernel)
set_option maxRecDepth 20000 in
theorem gX4_link_X0_kindOf : GoodIn wsX4_link (wsV RX4 130 RX0 yX0_kindOf wsX0_kindOf) := goodIn_app (goodIn_of _ (by decide +kernel)) ggX4_link_X0_kindOf
set_option maxRecDepth 20000 in
theorem ggX4_link_X0_at : GoodIn wsX4_link wsX0_at := goodIn_r _ [11, 12, 25, 26, 27, 28, 29, 30, 31, 32, 33, 34, 35, 36, 37, 38, 39] (by decide +kernel) (by decide +kernel)
set_option maxRecDepth 20000 in
theorem gX4_link_X0_at : GoodIn wsX4_link (wsV RX4 134 RX0 yX0_at wsX0_at) := goodIn_app (goodIn_of _ (by decide +kernel)) ggX4_link_X0_at
theorem dX4_link_0 : decode cX4_link 0 = .ok (.aload_n 0, 1) := by decide +kernel
theorem dX4_link_1 : decode cX4_link 1 = .ok (.getfield 18, 3) := by decide +kernel
theorem dX4_link_4 : decode cX4_link 4 = .ok (.iload_n 1, 1) := by decide +kernel
theorem dX4_link_5 : decode cX4_link 5 = .ok (.invokevirtual 130, 3) := by decide +kernel
theorem dX4_link_8 : decode cX4_link 8 = .ok (.istore_n 3, 1) := by decide +kernel
theorem dX4_link_9 : decode cX4_link 9 = .ok (.iload_n 3, 1) := by decide +kernel
theorem dX4_link_10 : decode cX4_link 10 = .ok (.iconst (-1), 1) := by decide +kernel
theorem dX4_link_11 : decode cX4_link 11 = .ok (.if_icmp .eq 20, 3) := by decide +kernel
theorem dX4_link_14 : decode cX4_link 14 = .ok (.iload_n 2, 1) := by decide +kernel
theorem dX4_link_15 : decode cX4_link 15 = .ok (.ifCond .lt 16, 3) := by decide +kernel
theorem dX4_link_18 : decode cX4_link 18 = .ok (.iload_n 2, 1) := by decide +kernel
theorem dX4_link_19 : decode cX4_link 19 = .ok (.iload_n 3, 1) := by decide +kernel
theorem dX4_link_20 : decode cX4_link 20 = .ok (.ifCond .ne 7, 3) := by decide +kernel
theorem dX4_link_23 : decode cX4_link 23 = .ok (.iconst 0, 1) := by decide +kernel
theorem dX4_link_24 : decode cX4_link 24 = .ok (.goto 4, 3) := by decide +kernel
theorem dX4_link_27 : decode cX4_link 27 = .ok (.iconst 2, 1) := by decide +kernel
theorem dX4_link_28 : decode cX4_link 28 = .ok (.if_icmp .le 5, 3) := by decide +kernel
theorem dX4_link_31 : decode cX4_link 31 = .ok (.iconst (-1), 1) := by decide +kernel
theorem dX4_link_32 : decode cX4_link 32 = .ok (.ireturn, 1) := by decide +kernel
theorem dX4_link_33 : decode cX4_link 33 = .ok (.aload_n 0, 1) := by decide +kernel
theorem dX4_link_34 : decode cX4_link 34 = .ok (.getfield 18, 3) := by decide +kernel
theorem dX4_link_37 : decode cX4_link 37 = .ok (.iconst 3, 1) := by decide +kernel
theorem dX4_link_38 : decode cX4_link 38 = .ok (.iload_n 1, 1) := by decide +kernel
theorem dX4_link_39 : decode cX4_link 39 = .ok (.imul, 1) := by decide +kernel
theorem dX4_link_40 : decode cX4_link 40 = .ok (.iload_n 2, 1) := by decide +kernel
theorem dX4_link_41 : decode cX4_link 41 = .ok (.iadd, 1) := by decide +kernel
theorem dX4_link_42 : decode cX4_link 42 = .ok (.invokevirtual 134, 3) := by decide +kernel
theorem dX4_link_45 : decode cX4_link 45 = .ok (.ireturn, 1) := by decide +kernel
set_option maxRecDepth 20000 in
theorem ggX4_root_X0_hasRoot : GoodIn wsX4_root wsX0_hasRoot := goodIn_r _ [6, 7, 24, 25, 26, 27, 28, 29, 30, 31, 32, 33, 34, 35, 36, 37, 38] (by decide +kernel) (by decide +kernel)
set_option maxRecDepth 20000 in
theorem gX4_root_X0_hasRoot : GoodIn wsX4_root (wsV RX4 137 RX0 yX0_hasRoot wsX0_hasRoot) := goodIn_app (goodIn_of _ (by decide +kernel)) ggX4_root_X0_hasRoot
set_option maxRecDepth 20000 in
theorem ggX4_root_X0_at : GoodIn wsX4_root wsX0_at := goodIn_r _ [11, 7, 24, 25, 26, 27, 28, 29, 30, 31, 32, 33, 34, 35, 36, 37, 38] (by decide +kernel) (by decide +kernel)
set_option maxRecDepth 20000 in
theorem gX4_root_X0_at : GoodIn wsX4_root (wsV RX4 134 RX0 yX0_at wsX0_at) := goodIn_app (goodIn_of _ (by decide +kernel)) ggX4_root_X0_at
theorem dX4_root_0 : decode cX4_root 0 = .ok (.aload_n 0, 1) := by decide +kernel
theorem dX4_root_1 : decode cX4_root 1 = .ok (.getfield 18, 3) := by decide +kernel
theorem dX4_root_4 : decode cX4_root 4 = .ok (.iload_n 1, 1) := by decide +kernel
theorem dX4_root_5 : decode cX4_root 5 = .ok (.invokevirtual 137, 3) := by decide +kernel
theorem dX4_root_8 : decode cX4_root 8 = .ok (.ifCond .eq 18, 3) := by decide +kernel
theorem dX4_root_11 : decode cX4_root 11 = .ok (.aload_n 0, 1) := by decide +kernel
theorem dX4_root_12 : decode cX4_root 12 = .ok (.getfield 18, 3) := by decide +kernel
theorem dX4_root_15 : decode cX4_root 15 = .ok (.sipush 1000, 3) := by decide +kernel
theorem dX4_root_18 : decode cX4_root 18 = .ok (.iload_n 1, 1) := by decide +kernel
theorem dX4_root_19 : decode cX4_root 19 = .ok (.iadd, 1) := by decide +kernel
theorem dX4_root_20 : decode cX4_root 20 = .ok (.invokevirtual 134, 3) := by decide +kernel
theorem dX4_root_23 : decode cX4_root 23 = .ok (.goto 4, 3) := by decide +kernel
theorem dX4_root_26 : decode cX4_root 26 = .ok (.iconst (-1), 1) := by decide +kernel
theorem dX4_root_27 : decode cX4_root 27 = .ok (.ireturn, 1) := by decide +kernel
set_option maxRecDepth 20000 in
theorem ggX4_rootAt_X0_hasRoot : GoodIn wsX4_rootAt wsX0_hasRoot := goodIn_r _ [6, 7, 20, 21, 22, 23, 24, 25, 26, 27, 28, 29, 30, 31, 32, 33, 34] (by decide +kernel) (by decide +kernel)
set_option maxRecDepth 20000 in
theorem gX4_rootAt_X0_hasRoot : GoodIn wsX4_rootAt (wsV RX4 137 RX0 yX0_hasRoot wsX0_hasRoot) := goodIn_app (goodIn_of _ (by decide +kernel)) ggX4_rootAt_X0_hasRoot
theorem dX4_rootAt_0 : decode cX4_rootAt 0 = .ok (.iconst 0, 1) := by decide +kernel
theorem dX4_rootAt_1 : decode cX4_rootAt 1 = .ok (.istore_n 2, 1) := by decide +kernel
theorem dX4_rootAt_2 : decode cX4_rootAt 2 = .ok (.iconst 0, 1) := by decide +kernel
theorem dX4_rootAt_3 : decode cX4_rootAt 3 = .ok (.istore_n 3, 1) := by decide +kernel
theorem dX4_rootAt_4 : decode cX4_rootAt 4 = .ok (.iload_n 3, 1) := by decide +kernel
theorem dX4_rootAt_5 : decode cX4_rootAt 5 = .ok (.bipush 16, 2) := by decide +kernel
theorem dX4_rootAt_7 : decode cX4_rootAt 7 = .ok (.if_icmp .ge 30, 3) := by decide +kernel
theorem dX4_rootAt_10 : decode cX4_rootAt 10 = .ok (.aload_n 0, 1) := by decide +kernel
theorem dX4_rootAt_11 : decode cX4_rootAt 11 = .ok (.getfield 18, 3) := by decide +kernel
theorem dX4_rootAt_14 : decode cX4_rootAt 14 = .ok (.iload_n 3, 1) := by decide +kernel
theorem dX4_rootAt_15 : decode cX4_rootAt 15 = .ok (.invokevirtual 137, 3) := by decide +kernel
theorem dX4_rootAt_18 : decode cX4_rootAt 18 = .ok (.ifCond .eq 13, 3) := by decide +kernel
theorem dX4_rootAt_21 : decode cX4_rootAt 21 = .ok (.iload_n 2, 1) := by decide +kernel
theorem dX4_rootAt_22 : decode cX4_rootAt 22 = .ok (.iload_n 1, 1) := by decide +kernel
theorem dX4_rootAt_23 : decode cX4_rootAt 23 = .ok (.if_icmp .ne 5, 3) := by decide +kernel
theorem dX4_rootAt_26 : decode cX4_rootAt 26 = .ok (.iload_n 3, 1) := by decide +kernel
theorem dX4_rootAt_27 : decode cX4_rootAt 27 = .ok (.ireturn, 1) := by decide +kernel
theorem dX4_rootAt_28 : decode cX4_rootAt 28 = .ok (.iinc 2 1, 3) := by decide +kernel
theorem dX4_rootAt_31 : decode cX4_rootAt 31 = .ok (.iinc 3 1, 3) := by decide +kernel
theorem dX4_rootAt_34 : decode cX4_rootAt 34 = .ok (.goto (-30), 3) := by decide +kernel
theorem dX4_rootAt_37 : decode cX4_rootAt 37 = .ok (.iconst (-1), 1) := by decide +kernel
theorem dX4_rootAt_38 : decode cX4_rootAt 38 = .ok (.ireturn, 1) := by decide +kernel
set_option maxRecDepth 20000 in
theorem ggX4_pair_X1_at : GoodIn wsX4_pair wsX1_at := goodIn_r _ [6, 7, 8, 9, 5, 10, 11, 12, 13, 14, 15, 16, 17, 18, 19, 20, 21, 22, 84, 85] (by decide +kernel) (by decide +kernel)
set_option maxRecDepth 20000 in
theorem gX4_pair_X1_at : GoodIn wsX4_pair (wsV RX4 141 RX1 yX1_at wsX1_at) := goodIn_app (goodIn_of _ (by decide +kernel)) ggX4_pair_X1_at
set_option maxRecDepth 20000 in
theorem ggX4_pair_X0_partnerOf : GoodIn wsX4_pair wsX0_partnerOf := goodIn_r _ [27, 28, 29, 30, 26, 31, 32, 33, 34, 35, 69, 70, 71, 72, 73, 74, 75, 76, 77, 78, 79, 80, 81, 82, 83] (by decide +kernel) (by decide +kernel)
set_option maxRecDepth 20000 in
theorem gX4_pair_X0_partnerOf : GoodIn wsX4_pair (wsV RX4 144 RX0 yX0_partnerOf wsX0_partnerOf) := goodIn_app (goodIn_of _ (by decide +kernel)) ggX4_pair_X0_partnerOf
set_option maxRecDepth 20000 in
theorem ggX4_pair_X0_ruleOf : GoodIn wsX4_pair wsX0_ruleOf := goodIn_r _ [39, 40, 41, 42, 26, 43, 44, 45, 24, 25, 27, 28, 29, 30, 31, 32, 33, 34, 35, 69, 70, 71, 72, 73, 74, 75, 76, 77, 78, 79, 80, 81, 82, 83] (by decide +kernel) (by decide +kernel)
set_option maxRecDepth 20000 in
theorem gX4_pair_X0_ruleOf : GoodIn wsX4_pair (wsV RX4 147 RX0 yX0_ruleOf wsX0_ruleOf) := goodIn_app (goodIn_of _ (by decide +kernel)) ggX4_pair_X0_ruleOf
set_option maxRecDepth 20000 in
theorem ggX4_pair_X0_canGo : GoodIn wsX4_pair wsX0_canGo := goodIn_r _ [49, 50, 37, 38, 26, 39, 40, 41, 42, 43, 44, 45, 24, 25, 27, 28, 29, 30, 31, 32, 33, 34, 35, 51, 52, 53, 54, 55, 56, 69, 70, 71, 72, 73, 74, 75, 76, 77, 78, 79, 80, 81, 82, 83] (by decide +kernel) (by decide +kernel)
set_option maxRecDepth 20000 in
theorem gX4_pair_X0_canGo : GoodIn wsX4_pair (wsV RX4 150 RX0 yX0_canGo wsX0_canGo) := goodIn_app (goodIn_of _ (by decide +kernel)) ggX4_pair_X0_canGo
theorem dX4_pair_0 : decode cX4_pair 0 = .ok (.aload_n 0, 1) := by decide +kernel
theorem dX4_pair_1 : decode cX4_pair 1 = .ok (.getfield 18, 3) := by decide +kernel
theorem dX4_pair_4 : decode cX4_pair 4 = .ok (.getfield 95, 3) := by decide +kernel
theorem dX4_pair_7 : decode cX4_pair 7 = .ok (.iload_n 1, 1) := by decide +kernel
theorem dX4_pair_8 : decode cX4_pair 8 = .ok (.iconst 1, 1) := by decide +kernel
theorem dX4_pair_9 : decode cX4_pair 9 = .ok (.invokevirtual 141, 3) := by decide +kernel
theorem dX4_pair_12 : decode cX4_pair 12 = .ok (.istore_n 3, 1) := by decide +kernel
theorem dX4_pair_13 : decode cX4_pair 13 = .ok (.iload_n 3, 1) := by decide +kernel
theorem dX4_pair_14 : decode cX4_pair 14 = .ok (.iconst (-1), 1) := by decide +kernel
theorem dX4_pair_15 : decode cX4_pair 15 = .ok (.if_icmp .ne 5, 3) := by decide +kernel
theorem dX4_pair_18 : decode cX4_pair 18 = .ok (.iconst (-1), 1) := by decide +kernel
theorem dX4_pair_19 : decode cX4_pair 19 = .ok (.ireturn, 1) := by decide +kernel
theorem dX4_pair_20 : decode cX4_pair 20 = .ok (.iload_n 2, 1) := by decide +kernel
theorem dX4_pair_21 : decode cX4_pair 21 = .ok (.tableswitch 68 0 3 #[31, 33, 42, 51], 31) := by decide +kernel
theorem dX4_pair_52 : decode cX4_pair 52 = .ok (.iload_n 3, 1) := by decide +kernel
theorem dX4_pair_53 : decode cX4_pair 53 = .ok (.ireturn, 1) := by decide +kernel
theorem dX4_pair_54 : decode cX4_pair 54 = .ok (.aload_n 0, 1) := by decide +kernel
theorem dX4_pair_55 : decode cX4_pair 55 = .ok (.getfield 18, 3) := by decide +kernel
theorem dX4_pair_58 : decode cX4_pair 58 = .ok (.iload_n 3, 1) := by decide +kernel
theorem dX4_pair_59 : decode cX4_pair 59 = .ok (.invokevirtual 144, 3) := by decide +kernel
theorem dX4_pair_62 : decode cX4_pair 62 = .ok (.ireturn, 1) := by decide +kernel
theorem dX4_pair_63 : decode cX4_pair 63 = .ok (.aload_n 0, 1) := by decide +kernel
theorem dX4_pair_64 : decode cX4_pair 64 = .ok (.getfield 18, 3) := by decide +kernel
theorem dX4_pair_67 : decode cX4_pair 67 = .ok (.iload_n 3, 1) := by decide +kernel
theorem dX4_pair_68 : decode cX4_pair 68 = .ok (.invokevirtual 147, 3) := by decide +kernel
theorem dX4_pair_71 : decode cX4_pair 71 = .ok (.ireturn, 1) := by decide +kernel
theorem dX4_pair_72 : decode cX4_pair 72 = .ok (.aload_n 0, 1) := by decide +kernel
theorem dX4_pair_73 : decode cX4_pair 73 = .ok (.getfield 18, 3) := by decide +kernel
theorem dX4_pair_76 : decode cX4_pair 76 = .ok (.iload_n 3, 1) := by decide +kernel
theorem dX4_pair_77 : decode cX4_pair 77 = .ok (.invokevirtual 150, 3) := by decide +kernel
theorem dX4_pair_80 : decode cX4_pair 80 = .ok (.ifCond .eq 7, 3) := by decide +kernel
theorem dX4_pair_83 : decode cX4_pair 83 = .ok (.iconst 1, 1) := by decide +kernel
theorem dX4_pair_84 : decode cX4_pair 84 = .ok (.goto 4, 3) := by decide +kernel
theorem dX4_pair_87 : decode cX4_pair 87 = .ok (.iconst 0, 1) := by decide +kernel
theorem dX4_pair_88 : decode cX4_pair 88 = .ok (.ireturn, 1) := by decide +kernel
theorem dX4_pair_89 : decode cX4_pair 89 = .ok (.iconst (-1), 1) := by decide +kernel
theorem dX4_pair_90 : decode cX4_pair 90 = .ok (.ireturn, 1) := by decide +kernel
set_option maxRecDepth 20000 in
theorem ggX4_next_X0_givenNext : GoodIn wsX4_next wsX0_givenNext := goodIn_r _ [6, 7, 8, 9, 10, 11, 24, 25, 26, 27, 28, 29, 30, 31, 32, 33, 34, 35, 36, 37, 38] (by decide +kernel) (by decide +kernel)
set_option maxRecDepth 20000 in
theorem gX4_next_X0_givenNext : GoodIn wsX4_next (wsV RX4 153 RX0 yX0_givenNext wsX0_givenNext) := goodIn_app (goodIn_of _ (by decide +kernel)) ggX4_next_X0_givenNext
theorem dX4_next_0 : decode cX4_next 0 = .ok (.aload_n 0, 1) := by decide +kernel
theorem dX4_next_1 : decode cX4_next 1 = .ok (.getfield 18, 3) := by decide +kernel
theorem dX4_next_4 : decode cX4_next 4 = .ok (.iload_n 1, 1) := by decide +kernel
theorem dX4_next_5 : decode cX4_next 5 = .ok (.invokevirtual 153, 3) := by decide +kernel
theorem dX4_next_8 : decode cX4_next 8 = .ok (.ireturn, 1) := by decide +kernel
set_option maxRecDepth 20000 in
theorem ggX4_number_X0_hasRoot : GoodIn wsX4_number wsX0_hasRoot := goodIn_r _ [8, 9, 42, 43, 44, 45, 46, 47, 48, 49, 50, 51, 52, 53, 54, 55, 56] (by decide +kernel) (by decide +kernel)
set_option maxRecDepth 20000 in
theorem gX4_number_X0_hasRoot : GoodIn wsX4_number (wsV RX4 137 RX0 yX0_hasRoot wsX0_hasRoot) := goodIn_app (goodIn_of _ (by decide +kernel)) ggX4_number_X0_hasRoot
set_option maxRecDepth 20000 in
theorem ggX4_number_X0_numberAt : GoodIn wsX4_number wsX0_numberAt := goodIn_r _ [13, 14, 15, 16, 7, 17, 9, 18, 19, 20, 21, 22, 23, 24, 25, 26, 27, 28, 29, 42, 43, 44, 45, 46, 47, 48, 49, 50, 51, 52, 53, 54, 55, 56] (by decide +kernel) (by decide +kernel)
set_option maxRecDepth 20000 in
theorem gX4_number_X0_numberAt : GoodIn wsX4_number (wsV RX4 163 RX0 yX0_numberAt wsX0_numberAt) := goodIn_app (goodIn_of _ (by decide +kernel)) ggX4_number_X0_numberAt
theorem dX4_number_0 : decode cX4_number 0 = .ok (.aload_n 0, 1) := by decide +kernel
theorem dX4_number_1 : decode cX4_number 1 = .ok (.getfield 18, 3) := by decide +kernel
theorem dX4_number_4 : decode cX4_number 4 = .ok (.iload_n 1, 1) := by decide +kernel
theorem dX4_number_5 : decode cX4_number 5 = .ok (.invokevirtual 137, 3) := by decide +kernel
theorem dX4_number_8 : decode cX4_number 8 = .ok (.ifCond .ne 13, 3) := by decide +kernel
theorem dX4_number_11 : decode cX4_number 11 = .ok (.new 156, 3) := by decide +kernel
theorem dX4_number_14 : decode cX4_number 14 = .ok (.dup, 1) := by decide +kernel
theorem dX4_number_15 : decode cX4_number 15 = .ok (.ldc 158, 2) := by decide +kernel
theorem dX4_number_17 : decode cX4_number 17 = .ok (.invokespecial 160, 3) := by decide +kernel
theorem dX4_number_20 : decode cX4_number 20 = .ok (.athrow, 1) := by decide +kernel
theorem dX4_number_21 : decode cX4_number 21 = .ok (.aload_n 0, 1) := by decide +kernel
theorem dX4_number_22 : decode cX4_number 22 = .ok (.getfield 18, 3) := by decide +kernel
theorem dX4_number_25 : decode cX4_number 25 = .ok (.sipush 1000, 3) := by decide +kernel
theorem dX4_number_28 : decode cX4_number 28 = .ok (.iload_n 1, 1) := by decide +kernel
theorem dX4_number_29 : decode cX4_number 29 = .ok (.iadd, 1) := by decide +kernel
theorem dX4_number_30 : decode cX4_number 30 = .ok (.invokevirtual 163, 3) := by decide +kernel
theorem dX4_number_33 : decode cX4_number 33 = .ok (.ireturn, 1) := by decide +kernel
set_option maxRecDepth 20000 in
theorem ggX4_list_X0_hasRoot : GoodIn wsX4_list wsX0_hasRoot := goodIn_r _ [8, 9, 46, 47, 48, 49, 50, 51, 52, 53, 54, 55, 56, 57, 58, 59, 60] (by decide +kernel) (by decide +kernel)
set_option maxRecDepth 20000 in
theorem gX4_list_X0_hasRoot : GoodIn wsX4_list (wsV RX4 137 RX0 yX0_hasRoot wsX0_hasRoot) := goodIn_app (goodIn_of _ (by decide +kernel)) ggX4_list_X0_hasRoot
set_option maxRecDepth 20000 in
theorem ggX4_list_X0_listAt : GoodIn wsX4_list wsX0_listAt := goodIn_r _ [13, 14, 15, 16, 7, 17, 9, 18, 19, 20, 21, 22, 23, 24, 25, 26, 27, 28, 29, 30, 31, 32, 33, 46, 47, 48, 49, 50, 51, 52, 53, 54, 55, 56, 57, 58, 59, 60] (by decide +kernel) (by decide +kernel)
set_option maxRecDepth 20000 in
theorem gX4_list_X0_listAt : GoodIn wsX4_list (wsV RX4 166 RX0 yX0_listAt wsX0_listAt) := goodIn_app (goodIn_of _ (by decide +kernel)) ggX4_list_X0_listAt
theorem dX4_list_0 : decode cX4_list 0 = .ok (.aload_n 0, 1) := by decide +kernel
theorem dX4_list_1 : decode cX4_list 1 = .ok (.getfield 18, 3) := by decide +kernel
theorem dX4_list_4 : decode cX4_list 4 = .ok (.iload_n 1, 1) := by decide +kernel
theorem dX4_list_5 : decode cX4_list 5 = .ok (.invokevirtual 137, 3) := by decide +kernel
theorem dX4_list_8 : decode cX4_list 8 = .ok (.ifCond .ne 13, 3) := by decide +kernel
theorem dX4_list_11 : decode cX4_list 11 = .ok (.new 156, 3) := by decide +kernel
theorem dX4_list_14 : decode cX4_list 14 = .ok (.dup, 1) := by decide +kernel
theorem dX4_list_15 : decode cX4_list 15 = .ok (.ldc 158, 2) := by decide +kernel
theorem dX4_list_17 : decode cX4_list 17 = .ok (.invokespecial 160, 3) := by decide +kernel
theorem dX4_list_20 : decode cX4_list 20 = .ok (.athrow, 1) := by decide +kernel
theorem dX4_list_21 : decode cX4_list 21 = .ok (.aload_n 0, 1) := by decide +kernel
theorem dX4_list_22 : decode cX4_list 22 = .ok (.getfield 18, 3) := by decide +kernel
theorem dX4_list_25 : decode cX4_list 25 = .ok (.sipush 1000, 3) := by decide +kernel
theorem dX4_list_28 : decode cX4_list 28 = .ok (.iload_n 1, 1) := by decide +kernel
theorem dX4_list_29 : decode cX4_list 29 = .ok (.iadd, 1) := by decide +kernel
theorem dX4_list_30 : decode cX4_list 30 = .ok (.iload_n 2, 1) := by decide +kernel
theorem dX4_list_31 : decode cX4_list 31 = .ok (.invokevirtual 166, 3) := by decide +kernel
theorem dX4_list_34 : decode cX4_list 34 = .ok (.ireturn, 1) := by decide +kernel
set_option maxRecDepth 20000 in
theorem ggX4_seen_X2_look : GoodIn wsX4_seen wsX2_look := goodIn_r _ [7, 8, 9, 10, 11, 12, 13, 14, 15, 16, 17, 18, 19, 20, 21, 22, 23, 6, 24, 25, 26, 27, 28, 29, 30, 31, 32, 33, 34, 35, 36, 37, 38, 39, 40, 41, 42, 43, 44, 45, 46, 47, 48, 49, 50, 51, 52, 53, 54, 55, 56, 57, 58, 71, 72, 73, 74, 75, 76, 77, 78, 79, 80, 81, 82, 83, 84, 85, 86, 87, 88, 89, 90, 91, 92, 93] (by decide +kernel) (by decide +kernel)
set_option maxRecDepth 20000 in
theorem gX4_seen_X2_look : GoodIn wsX4_seen (wsV RX4 170 RX2 yX2_look wsX2_look) := goodIn_app (goodIn_of _ (by decide +kernel)) ggX4_seen_X2_look
theorem dX4_seen_0 : decode cX4_seen 0 = .ok (.aload_n 0, 1) := by decide +kernel
theorem dX4_seen_1 : decode cX4_seen 1 = .ok (.getfield 35, 3) := by decide +kernel
theorem dX4_seen_4 : decode cX4_seen 4 = .ok (.aload_n 0, 1) := by decide +kernel
theorem dX4_seen_5 : decode cX4_seen 5 = .ok (.getfield 18, 3) := by decide +kernel
theorem dX4_seen_8 : decode cX4_seen 8 = .ok (.invokevirtual 170, 3) := by decide +kernel
theorem dX4_seen_11 : decode cX4_seen 11 = .ok (.aload_n 0, 1) := by decide +kernel
theorem dX4_seen_12 : decode cX4_seen 12 = .ok (.getfield 35, 3) := by decide +kernel
theorem dX4_seen_15 : decode cX4_seen 15 = .ok (.getfield 173, 3) := by decide +kernel
theorem dX4_seen_18 : decode cX4_seen 18 = .ok (.ireturn, 1) := by decide +kernel
set_option maxRecDepth 20000 in
theorem ggX4_met_X2_look : GoodIn wsX4_met wsX2_look := goodIn_r _ [7, 8, 9, 10, 11, 12, 13, 14, 15, 16, 17, 18, 19, 20, 21, 22, 23, 6, 24, 25, 26, 27, 28, 29, 30, 31, 32, 33, 34, 35, 36, 37, 38, 39, 40, 41, 42, 43, 44, 45, 46, 47, 48, 49, 50, 51, 52, 53, 54, 55, 56, 57, 58, 71, 72, 73, 74, 75, 76, 77, 78, 79, 80, 81, 82, 83, 84, 85, 86, 87, 88, 89, 90, 91, 92, 93] (by decide +kernel) (by decide +kernel)
set_option maxRecDepth 20000 in
theorem gX4_met_X2_look : GoodIn wsX4_met (wsV RX4 170 RX2 yX2_look wsX2_look) := goodIn_app (goodIn_of _ (by decide +kernel)) ggX4_met_X2_look
theorem dX4_met_0 : decode cX4_met 0 = .ok (.aload_n 0, 1) := by decide +kernel
theorem dX4_met_1 : decode cX4_met 1 = .ok (.getfield 35, 3) := by decide +kernel
theorem dX4_met_4 : decode cX4_met 4 = .ok (.aload_n 0, 1) := by decide +kernel
theorem dX4_met_5 : decode cX4_met 5 = .ok (.getfield 18, 3) := by decide +kernel
theorem dX4_met_8 : decode cX4_met 8 = .ok (.invokevirtual 170, 3) := by decide +kernel
theorem dX4_met_11 : decode cX4_met 11 = .ok (.iload_n 1, 1) := by decide +kernel
theorem dX4_met_12 : decode cX4_met 12 = .ok (.ifCond .lt 14, 3) := by decide +kernel
theorem dX4_met_15 : decode cX4_met 15 = .ok (.iload_n 1, 1) := by decide +kernel
theorem dX4_met_16 : decode cX4_met 16 = .ok (.aload_n 0, 1) := by decide +kernel
theorem dX4_met_17 : decode cX4_met 17 = .ok (.getfield 35, 3) := by decide +kernel
theorem dX4_met_20 : decode cX4_met 20 = .ok (.getfield 173, 3) := by decide +kernel
theorem dX4_met_23 : decode cX4_met 23 = .ok (.if_icmp .lt 5, 3) := by decide +kernel
theorem dX4_met_26 : decode cX4_met 26 = .ok (.iconst (-1), 1) := by decide +kernel
theorem dX4_met_27 : decode cX4_met 27 = .ok (.ireturn, 1) := by decide +kernel
theorem dX4_met_28 : decode cX4_met 28 = .ok (.iload_n 2, 1) := by decide +kernel
theorem dX4_met_29 : decode cX4_met 29 = .ok (.lookupswitch 47 #[(0, 27), (1, 37)], 27) := by decide +kernel
theorem dX4_met_56 : decode cX4_met 56 = .ok (.aload_n 0, 1) := by decide +kernel
theorem dX4_met_57 : decode cX4_met 57 = .ok (.getfield 35, 3) := by decide +kernel
theorem dX4_met_60 : decode cX4_met 60 = .ok (.getfield 176, 3) := by decide +kernel
theorem dX4_met_63 : decode cX4_met 63 = .ok (.iload_n 1, 1) := by decide +kernel
theorem dX4_met_64 : decode cX4_met 64 = .ok (.iaload, 1) := by decide +kernel
theorem dX4_met_65 : decode cX4_met 65 = .ok (.ireturn, 1) := by decide +kernel
theorem dX4_met_66 : decode cX4_met 66 = .ok (.aload_n 0, 1) := by decide +kernel
theorem dX4_met_67 : decode cX4_met 67 = .ok (.getfield 35, 3) := by decide +kernel
theorem dX4_met_70 : decode cX4_met 70 = .ok (.getfield 179, 3) := by decide +kernel
theorem dX4_met_73 : decode cX4_met 73 = .ok (.iload_n 1, 1) := by decide +kernel
theorem dX4_met_74 : decode cX4_met 74 = .ok (.iaload, 1) := by decide +kernel
theorem dX4_met_75 : decode cX4_met 75 = .ok (.ireturn, 1) := by decide +kernel
theorem dX4_met_76 : decode cX4_met 76 = .ok (.iconst (-1), 1) := by decide +kernel
theorem dX4_met_77 : decode cX4_met 77 = .ok (.ireturn, 1) := by decide +kernel
set_option maxRecDepth 20000 in
theorem ggX4_run_X4_isOrder : GoodIn wsX4_run wsX4_isOrder := goodIn_r _ [5] (by decide +kernel) (by decide +kernel)
set_option maxRecDepth 20000 in
theorem gX4_run_X4_isOrder : GoodIn wsX4_run (va_wsS RX4 182 yX4_isOrder wsX4_isOrder) := goodIn_app (goodIn_of _ (by decide +kernel)) ggX4_run_X4_isOrder
set_option maxRecDepth 20000 in
theorem ggX4_run_X4_isStepLimit : GoodIn wsX4_run wsX4_isStepLimit := goodIn_r _ [8] (by decide +kernel) (by decide +kernel)
set_option maxRecDepth 20000 in
theorem gX4_run_X4_isStepLimit : GoodIn wsX4_run (va_wsS RX4 185 yX4_isStepLimit wsX4_isStepLimit) := goodIn_app (goodIn_of _ (by decide +kernel)) ggX4_run_X4_isStepLimit
set_option maxRecDepth 20000 in
theorem ggX4_run_X4_remember : GoodIn wsX4_run wsX4_remember := goodIn_r _ [12, 13, 14, 15, 16, 17, 18, 1, 19, 20, 21, 22, 23, 24, 25, 26, 27, 28, 29, 30, 31, 32, 33, 34, 35, 36, 37, 38, 39, 40, 41, 42, 43, 44, 45, 46, 47, 48, 49, 50, 51, 52, 53, 54, 55, 56, 57, 58, 59, 60, 61, 62, 63, 64, 65, 66, 67, 68, 69, 70, 71, 72, 73, 74, 75, 76, 77, 78, 79, 80, 81, 82, 83, 84, 192, 193, 194, 195, 196, 197, 198, 199, 200, 201, 202, 203, 204, 205, 206, 207, 208, 209, 210, 211, 212, 213, 214, 215, 216, 217, 218, 219, 220] (by decide +kernel) (by decide +kernel)
set_option maxRecDepth 20000 in
theorem gX4_run_X4_remember : GoodIn wsX4_run (wsV RX4 188 RX4 yX4_remember wsX4_remember) := goodIn_app (goodIn_of _ (by decide +kernel)) ggX4_run_X4_remember
set_option maxRecDepth 20000 in
theorem ggX4_run_X0_goOn : GoodIn wsX4_run wsX0_goOn := goodIn_r _ [88, 53, 60, 89, 32, 34, 35, 36, 37, 90, 91, 92, 18, 93, 94, 95, 96, 97, 52, 98, 99, 100, 31, 101, 102, 103, 104, 105, 43, 44, 106, 107, 108, 109, 110, 111, 112, 113, 114, 115, 116, 117, 118, 119, 120, 121, 122, 123, 28, 124, 125, 126, 127, 128, 129, 130, 131, 38, 132, 133, 134, 135, 136, 137, 138, 139, 140, 141, 142, 26, 143, 144, 145, 146, 147, 148, 149, 150, 151, 152, 153, 154, 155, 156, 157, 158, 159, 49, 50, 51, 160, 161, 162, 163, 164, 165, 166, 167, 168, 169, 170, 171, 56, 27, 55, 172, 173, 174, 175, 59, 176, 177, 178, 179, 180, 181, 182, 183, 57, 54, 184, 185, 186, 187, 188, 189, 190, 191, 204, 205, 206, 207, 208, 209, 210, 211, 212, 213, 214, 215, 216, 217, 218, 219, 220] (by decide +kernel) (by decide +kernel)
set_option maxRecDepth 20000 in
theorem gX4_run_X0_goOn : GoodIn wsX4_run (wsV RX4 191 RX0 yX0_goOn wsX0_goOn) := goodIn_app (goodIn_of _ (by decide +kernel)) ggX4_run_X0_goOn
theorem dX4_run_0 : decode cX4_run 0 = .ok (.iload_n 1, 1) := by decide +kernel
theorem dX4_run_1 : decode cX4_run 1 = .ok (.invokestatic 182, 3) := by decide +kernel
theorem dX4_run_4 : decode cX4_run 4 = .ok (.ifCond .eq 10, 3) := by decide +kernel
theorem dX4_run_7 : decode cX4_run 7 = .ok (.iload_n 2, 1) := by decide +kernel
theorem dX4_run_8 : decode cX4_run 8 = .ok (.invokestatic 185, 3) := by decide +kernel
theorem dX4_run_11 : decode cX4_run 11 = .ok (.ifCond .ne 5, 3) := by decide +kernel
theorem dX4_run_14 : decode cX4_run 14 = .ok (.iconst (-1), 1) := by decide +kernel
theorem dX4_run_15 : decode cX4_run 15 = .ok (.ireturn, 1) := by decide +kernel
theorem dX4_run_16 : decode cX4_run 16 = .ok (.aload_n 0, 1) := by decide +kernel
theorem dX4_run_17 : decode cX4_run 17 = .ok (.invokevirtual 188, 3) := by decide +kernel
theorem dX4_run_20 : decode cX4_run 20 = .ok (.aload_n 0, 1) := by decide +kernel
theorem dX4_run_21 : decode cX4_run 21 = .ok (.getfield 18, 3) := by decide +kernel
theorem dX4_run_24 : decode cX4_run 24 = .ok (.iload_n 1, 1) := by decide +kernel
theorem dX4_run_25 : decode cX4_run 25 = .ok (.iload_n 2, 1) := by decide +kernel
theorem dX4_run_26 : decode cX4_run 26 = .ok (.iload_n 3, 1) := by decide +kernel
theorem dX4_run_27 : decode cX4_run 27 = .ok (.invokevirtual 191, 3) := by decide +kernel
theorem dX4_run_30 : decode cX4_run 30 = .ok (.ireturn, 1) := by decide +kernel
set_option maxRecDepth 20000 in
theorem ggX4_round_X4_remember : GoodIn wsX4_round wsX4_remember := goodIn_r _ [6, 7, 8, 9, 10, 11, 12, 1, 13, 14, 15, 16, 17, 18, 19, 20, 21, 22, 23, 24, 25, 26, 27, 28, 29, 30, 31, 32, 33, 34, 35, 36, 37, 38, 39, 40, 41, 42, 43, 44, 45, 46, 47, 48, 49, 50, 51, 52, 53, 54, 55, 56, 57, 58, 59, 60, 61, 62, 63, 64, 65, 66, 67, 68, 69, 70, 71, 72, 73, 74, 75, 76, 77, 78, 185, 186, 187, 188, 189, 190, 191, 192, 193, 194, 195, 196, 197, 198, 199, 200, 201, 202, 203, 204, 205, 206, 207, 208, 209, 210, 211, 212, 213] (by decide +kernel) (by decide +kernel)
set_option maxRecDepth 20000 in
theorem gX4_round_X4_remember : GoodIn wsX4_round (wsV RX4 188 RX4 yX4_remember wsX4_remember) := goodIn_app (goodIn_of _ (by decide +kernel)) ggX4_round_X4_remember
set_option maxRecDepth 20000 in
theorem ggX4_round_X0_goRound : GoodIn wsX4_round wsX0_goRound := goodIn_r _ [82, 27, 26, 74, 75, 76, 25, 77, 37, 78, 71, 72, 73, 38, 83, 84, 85, 86, 87, 88, 89, 90, 91, 92, 93, 94, 95, 96, 97, 98, 99, 100, 101, 102, 103, 104, 105, 106, 107, 12, 108, 109, 110, 111, 112, 113, 114, 115, 116, 20, 117, 118, 119, 120, 121, 122, 123, 124, 32, 125, 126, 127, 128, 129, 130, 131, 47, 46, 132, 133, 134, 135, 22, 136, 137, 138, 139, 140, 141, 142, 143, 144, 145, 146, 147, 148, 149, 150, 151, 152, 43, 44, 30, 45, 153, 154, 155, 156, 157, 158, 159, 160, 161, 162, 163, 164, 50, 21, 49, 165, 166, 167, 168, 53, 169, 170, 171, 172, 173, 174, 175, 176, 51, 48, 177, 178, 179, 180, 181, 182, 183, 184, 197, 198, 199, 200, 201, 202, 203, 204, 205, 206, 207, 208, 209, 210, 211, 212, 213] (by decide +kernel) (by decide +kernel)
set_option maxRecDepth 20000 in
theorem gX4_round_X0_goRound : GoodIn wsX4_round (wsV RX4 195 RX0 yX0_goRound wsX0_goRound) := goodIn_app (goodIn_of _ (by decide +kernel)) ggX4_round_X0_goRound
theorem dX4_round_0 : decode cX4_round 0 = .ok (.aload_n 0, 1) := by decide +kernel
theorem dX4_round_1 : decode cX4_round 1 = .ok (.invokevirtual 188, 3) := by decide +kernel
theorem dX4_round_4 : decode cX4_round 4 = .ok (.aload_n 0, 1) := by decide +kernel
theorem dX4_round_5 : decode cX4_round 5 = .ok (.getfield 18, 3) := by decide +kernel
theorem dX4_round_8 : decode cX4_round 8 = .ok (.invokevirtual 195, 3) := by decide +kernel
theorem dX4_round_11 : decode cX4_round 11 = .ok (.ireturn, 1) := by decide +kernel
set_option maxRecDepth 20000 in
theorem ggX4_reduce_X1_has : GoodIn wsX4_reduce wsX1_has := goodIn_r _ [6, 7, 8, 9, 5, 10, 11, 12, 194, 195] (by decide +kernel) (by decide +kernel)
set_option maxRecDepth 20000 in
theorem gX4_reduce_X1_has : GoodIn wsX4_reduce (wsV RX4 198 RX1 yX1_has wsX1_has) := goodIn_app (goodIn_of _ (by decide +kernel)) ggX4_reduce_X1_has
set_option maxRecDepth 20000 in
theorem ggX4_reduce_X0_canGo : GoodIn wsX4_reduce wsX0_canGo := goodIn_r _ [17, 18, 19, 20, 16, 21, 22, 23, 24, 25, 26, 27, 28, 29, 30, 31, 32, 33, 34, 35, 36, 37, 38, 39, 40, 41, 42, 43, 44, 179, 180, 181, 182, 183, 184, 185, 186, 187, 188, 189, 190, 191, 192, 193] (by decide +kernel) (by decide +kernel)
set_option maxRecDepth 20000 in
theorem gX4_reduce_X0_canGo : GoodIn wsX4_reduce (wsV RX4 150 RX0 yX0_canGo wsX0_canGo) := goodIn_app (goodIn_of _ (by decide +kernel)) ggX4_reduce_X0_canGo
set_option maxRecDepth 20000 in
theorem ggX4_reduce_X4_remember : GoodIn wsX4_reduce wsX4_remember := goodIn_r _ [49, 50, 51, 52, 53, 54, 16, 1, 55, 56, 57, 58, 59, 60, 61, 26, 62, 63, 64, 65, 5, 66, 67, 68, 69, 70, 71, 35, 72, 73, 74, 75, 11, 12, 76, 77, 78, 79, 80, 81, 82, 44, 43, 83, 84, 85, 86, 87, 88, 89, 90, 91, 92, 93, 94, 95, 96, 97, 98, 99, 100, 101, 102, 103, 104, 105, 106, 107, 108, 109, 110, 111, 112, 113, 167, 168, 169, 170, 171, 172, 173, 174, 175, 176, 177, 178, 179, 180, 181, 182, 183, 184, 185, 186, 187, 188, 189, 190, 191, 192, 193, 194, 195] (by decide +kernel) (by decide +kernel)
set_option maxRecDepth 20000 in
theorem gX4_reduce_X4_remember : GoodIn wsX4_reduce (wsV RX4 188 RX4 yX4_remember wsX4_remember) := goodIn_app (goodIn_of _ (by decide +kernel)) ggX4_reduce_X4_remember
set_option maxRecDepth 20000 in
theorem ggX4_reduce_X0_rewrite : GoodIn wsX4_reduce wsX0_rewrite := goodIn_r _ [117, 66, 63, 27, 28, 29, 16, 30, 31, 32, 33, 34, 35, 36, 37, 38, 18, 19, 20, 21, 22, 23, 24, 25, 26, 118, 119, 120, 5, 121, 122, 11, 12, 123, 124, 125, 126, 127, 128, 129, 130, 131, 132, 133, 134, 80, 81, 70, 82, 135, 136, 137, 138, 139, 140, 141, 142, 143, 144, 145, 146, 85, 62, 84, 43, 147, 148, 149, 150, 88, 151, 152, 153, 154, 155, 156, 157, 158, 86, 83, 159, 160, 161, 162, 44, 163, 164, 165, 166, 179, 180, 181, 182, 183, 184, 185, 186, 187, 188, 189, 190, 191, 192, 193, 194, 195] (by decide +kernel) (by decide +kernel)
set_option maxRecDepth 20000 in
theorem gX4_reduce_X0_rewrite : GoodIn wsX4_reduce (wsV RX4 201 RX0 yX0_rewrite wsX0_rewrite) := goodIn_app (goodIn_of _ (by decide +kernel)) ggX4_reduce_X0_rewrite
theorem dX4_reduce_0 : decode cX4_reduce 0 = .ok (.aload_n 0, 1) := by decide +kernel
theorem dX4_reduce_1 : decode cX4_reduce 1 = .ok (.getfield 18, 3) := by decide +kernel
theorem dX4_reduce_4 : decode cX4_reduce 4 = .ok (.getfield 95, 3) := by decide +kernel
theorem dX4_reduce_7 : decode cX4_reduce 7 = .ok (.iload_n 1, 1) := by decide +kernel
theorem dX4_reduce_8 : decode cX4_reduce 8 = .ok (.invokevirtual 198, 3) := by decide +kernel
theorem dX4_reduce_11 : decode cX4_reduce 11 = .ok (.ifCond .eq 14, 3) := by decide +kernel
theorem dX4_reduce_14 : decode cX4_reduce 14 = .ok (.aload_n 0, 1) := by decide +kernel
theorem dX4_reduce_15 : decode cX4_reduce 15 = .ok (.getfield 18, 3) := by decide +kernel
theorem dX4_reduce_18 : decode cX4_reduce 18 = .ok (.iload_n 1, 1) := by decide +kernel
theorem dX4_reduce_19 : decode cX4_reduce 19 = .ok (.invokevirtual 150, 3) := by decide +kernel
theorem dX4_reduce_22 : decode cX4_reduce 22 = .ok (.ifCond .ne 5, 3) := by decide +kernel
theorem dX4_reduce_25 : decode cX4_reduce 25 = .ok (.iconst (-1), 1) := by decide +kernel
theorem dX4_reduce_26 : decode cX4_reduce 26 = .ok (.ireturn, 1) := by decide +kernel
theorem dX4_reduce_27 : decode cX4_reduce 27 = .ok (.aload_n 0, 1) := by decide +kernel
theorem dX4_reduce_28 : decode cX4_reduce 28 = .ok (.invokevirtual 188, 3) := by decide +kernel
theorem dX4_reduce_31 : decode cX4_reduce 31 = .ok (.aload_n 0, 1) := by decide +kernel
theorem dX4_reduce_32 : decode cX4_reduce 32 = .ok (.getfield 18, 3) := by decide +kernel
theorem dX4_reduce_35 : decode cX4_reduce 35 = .ok (.iload_n 1, 1) := by decide +kernel
theorem dX4_reduce_36 : decode cX4_reduce 36 = .ok (.invokevirtual 201, 3) := by decide +kernel
theorem dX4_reduce_39 : decode cX4_reduce 39 = .ok (.ireturn, 1) := by decide +kernel
set_option maxRecDepth 20000 in
theorem ggX4_tried_X4_isOrder : GoodIn wsX4_tried wsX4_isOrder := goodIn_r _ [6] (by decide +kernel) (by decide +kernel)
set_option maxRecDepth 20000 in
theorem gX4_tried_X4_isOrder : GoodIn wsX4_tried (va_wsS RX4 182 yX4_isOrder wsX4_isOrder) := goodIn_app (goodIn_of _ (by decide +kernel)) ggX4_tried_X4_isOrder
set_option maxRecDepth 20000 in
theorem ggX4_tried_X4_isStepLimit : GoodIn wsX4_tried wsX4_isStepLimit := goodIn_r _ [9] (by decide +kernel) (by decide +kernel)
set_option maxRecDepth 20000 in
theorem gX4_tried_X4_isStepLimit : GoodIn wsX4_tried (va_wsS RX4 185 yX4_isStepLimit wsX4_isStepLimit) := goodIn_app (goodIn_of _ (by decide +kernel)) ggX4_tried_X4_isStepLimit
set_option maxRecDepth 20000 in
theorem ggX4_tried_X0_become : GoodIn wsX4_tried wsX0_become := goodIn_r _ [14, 15, 16, 17, 18, 19, 20, 21, 22, 23, 24, 25, 26, 27, 28, 29, 30, 31, 32, 33, 34, 35, 36, 37, 38, 39, 168, 169, 170, 171, 172, 173, 174, 175, 176, 177, 178, 179, 180, 181, 182, 183, 184] (by decide +kernel) (by decide +kernel)
set_option maxRecDepth 20000 in
theorem gX4_tried_X0_become : GoodIn wsX4_tried (wsV RX4 73 RX0 yX0_become wsX0_become) := goodIn_app (goodIn_of _ (by decide +kernel)) ggX4_tried_X0_become
set_option maxRecDepth 20000 in
theorem ggX4_tried_X0_goOn : GoodIn wsX4_tried wsX0_goOn := goodIn_r _ [43, 25, 44, 45, 23, 46, 47, 48, 49, 50, 51, 52, 13, 53, 54, 55, 56, 57, 24, 58, 59, 60, 35, 61, 62, 63, 64, 65, 37, 39, 66, 67, 68, 69, 70, 71, 72, 73, 74, 75, 76, 77, 78, 79, 80, 81, 82, 83, 22, 84, 85, 86, 87, 88, 89, 90, 91, 20, 92, 93, 94, 95, 96, 97, 98, 99, 100, 101, 102, 15, 103, 104, 105, 106, 107, 108, 109, 110, 111, 112, 113, 114, 115, 116, 117, 118, 119, 120, 121, 122, 123, 124, 125, 126, 127, 128, 129, 130, 131, 132, 133, 134, 28, 21, 27, 135, 136, 137, 138, 31, 139, 140, 141, 142, 143, 144, 145, 146, 29, 26, 147, 148, 149, 150, 151, 152, 153, 154, 168, 169, 170, 171, 172, 173, 174, 175, 176, 177, 178, 179, 180, 181, 182, 183, 184] (by decide +kernel) (by decide +kernel)
set_option maxRecDepth 20000 in
theorem gX4_tried_X0_goOn : GoodIn wsX4_tried (wsV RX4 191 RX0 yX0_goOn wsX0_goOn) := goodIn_app (goodIn_of _ (by decide +kernel)) ggX4_tried_X0_goOn
set_option maxRecDepth 20000 in
theorem ggX4_tried_X1_size : GoodIn wsX4_tried wsX1_size := goodIn_r _ [61, 62, 63, 64, 35, 65, 37, 39, 66, 67, 68, 69, 70, 71, 72, 183, 184] (by decide +kernel) (by decide +kernel)
set_option maxRecDepth 20000 in
theorem gX4_tried_X1_size : GoodIn wsX4_tried (wsV RX4 99 RX1 yX1_size wsX1_size) := goodIn_app (goodIn_of _ (by decide +kernel)) ggX4_tried_X1_size
theorem dX4_tried_0 : decode cX4_tried 0 = .ok (.iload_n 1, 1) := by decide +kernel
theorem dX4_tried_1 : decode cX4_tried 1 = .ok (.invokestatic 182, 3) := by decide +kernel
theorem dX4_tried_4 : decode cX4_tried 4 = .ok (.ifCond .eq 21, 3) := by decide +kernel
theorem dX4_tried_7 : decode cX4_tried 7 = .ok (.iload_n 2, 1) := by decide +kernel
theorem dX4_tried_8 : decode cX4_tried 8 = .ok (.invokestatic 185, 3) := by decide +kernel
theorem dX4_tried_11 : decode cX4_tried 11 = .ok (.ifCond .eq 14, 3) := by decide +kernel
theorem dX4_tried_14 : decode cX4_tried 14 = .ok (.iload 4, 2) := by decide +kernel
theorem dX4_tried_16 : decode cX4_tried 16 = .ok (.ifCond .lt 9, 3) := by decide +kernel
theorem dX4_tried_19 : decode cX4_tried 19 = .ok (.iload 4, 2) := by decide +kernel
theorem dX4_tried_21 : decode cX4_tried 21 = .ok (.iconst 2, 1) := by decide +kernel
theorem dX4_tried_22 : decode cX4_tried 22 = .ok (.if_icmp .le 5, 3) := by decide +kernel
theorem dX4_tried_25 : decode cX4_tried 25 = .ok (.iconst (-1), 1) := by decide +kernel
theorem dX4_tried_26 : decode cX4_tried 26 = .ok (.ireturn, 1) := by decide +kernel
theorem dX4_tried_27 : decode cX4_tried 27 = .ok (.aload_n 0, 1) := by decide +kernel
theorem dX4_tried_28 : decode cX4_tried 28 = .ok (.getfield 22, 3) := by decide +kernel
theorem dX4_tried_31 : decode cX4_tried 31 = .ok (.aload_n 0, 1) := by decide +kernel
theorem dX4_tried_32 : decode cX4_tried 32 = .ok (.getfield 18, 3) := by decide +kernel
theorem dX4_tried_35 : decode cX4_tried 35 = .ok (.invokevirtual 73, 3) := by decide +kernel
theorem dX4_tried_38 : decode cX4_tried 38 = .ok (.aload_n 0, 1) := by decide +kernel
theorem dX4_tried_39 : decode cX4_tried 39 = .ok (.getfield 22, 3) := by decide +kernel
theorem dX4_tried_42 : decode cX4_tried 42 = .ok (.iload_n 1, 1) := by decide +kernel
theorem dX4_tried_43 : decode cX4_tried 43 = .ok (.iload_n 2, 1) := by decide +kernel
theorem dX4_tried_44 : decode cX4_tried 44 = .ok (.iload_n 3, 1) := by decide +kernel
theorem dX4_tried_45 : decode cX4_tried 45 = .ok (.invokevirtual 191, 3) := by decide +kernel
theorem dX4_tried_48 : decode cX4_tried 48 = .ok (.istore 5, 2) := by decide +kernel
theorem dX4_tried_50 : decode cX4_tried 50 = .ok (.iload 4, 2) := by decide +kernel
theorem dX4_tried_52 : decode cX4_tried 52 = .ok (.lookupswitch 39 #[(0, 28), (1, 31)], 28) := by decide +kernel
theorem dX4_tried_80 : decode cX4_tried 80 = .ok (.iload 5, 2) := by decide +kernel
theorem dX4_tried_82 : decode cX4_tried 82 = .ok (.ireturn, 1) := by decide +kernel
theorem dX4_tried_83 : decode cX4_tried 83 = .ok (.aload_n 0, 1) := by decide +kernel
theorem dX4_tried_84 : decode cX4_tried 84 = .ok (.getfield 22, 3) := by decide +kernel
theorem dX4_tried_87 : decode cX4_tried 87 = .ok (.getfield 204, 3) := by decide +kernel
theorem dX4_tried_90 : decode cX4_tried 90 = .ok (.ireturn, 1) := by decide +kernel
theorem dX4_tried_91 : decode cX4_tried 91 = .ok (.aload_n 0, 1) := by decide +kernel
theorem dX4_tried_92 : decode cX4_tried 92 = .ok (.getfield 22, 3) := by decide +kernel
theorem dX4_tried_95 : decode cX4_tried 95 = .ok (.getfield 95, 3) := by decide +kernel
theorem dX4_tried_98 : decode cX4_tried 98 = .ok (.iconst 1, 1) := by decide +kernel
theorem dX4_tried_99 : decode cX4_tried 99 = .ok (.invokevirtual 99, 3) := by decide +kernel
theorem dX4_tried_102 : decode cX4_tried 102 = .ok (.ireturn, 1) := by decide +kernel
set_option maxRecDepth 20000 in
theorem ggX4_rounds_X0_become : GoodIn wsX4_rounds wsX0_become := goodIn_r _ [7, 8, 9, 10, 11, 12, 13, 14, 15, 16, 17, 18, 19, 20, 21, 22, 23, 24, 25, 26, 27, 28, 29, 30, 31, 32, 156, 157, 158, 159, 160, 161, 162, 163, 164, 165, 166, 167, 168, 169, 170, 171, 172] (by decide +kernel) (by decide +kernel)
set_option maxRecDepth 20000 in
theorem gX4_rounds_X0_become : GoodIn wsX4_rounds (wsV RX4 73 RX0 yX0_become wsX0_become) := goodIn_app (goodIn_of _ (by decide +kernel)) ggX4_rounds_X0_become
set_option maxRecDepth 20000 in
theorem ggX4_rounds_X0_goRound : GoodIn wsX4_rounds wsX0_goRound := goodIn_r _ [36, 37, 16, 25, 26, 27, 28, 29, 30, 31, 10, 11, 12, 32, 38, 39, 40, 41, 42, 43, 44, 45, 46, 47, 48, 49, 50, 51, 52, 53, 54, 55, 56, 57, 58, 59, 60, 61, 62, 6, 63, 64, 65, 66, 67, 68, 69, 70, 71, 8, 72, 73, 74, 75, 76, 77, 78, 79, 13, 80, 81, 82, 83, 84, 85, 86, 18, 17, 87, 88, 89, 90, 15, 91, 92, 93, 94, 95, 96, 97, 98, 99, 100, 101, 102, 103, 104, 105, 106, 107, 108, 109, 110, 111, 112, 113, 114, 115, 116, 117, 118, 119, 120, 121, 122, 123, 21, 14, 20, 124, 125, 126, 127, 24, 128, 129, 130, 131, 132, 133, 134, 135, 22, 19, 136, 137, 138, 139, 140, 141, 142, 143, 156, 157, 158, 159, 160, 161, 162, 163, 164, 165, 166, 167, 168, 169, 170, 171, 172] (by decide +kernel) (by decide +kernel)
set_option maxRecDepth 20000 in
theorem gX4_rounds_X0_goRound : GoodIn wsX4_rounds (wsV RX4 195 RX0 yX0_goRound wsX0_goRound) := goodIn_app (goodIn_of _ (by decide +kernel)) ggX4_rounds_X0_goRound
theorem dX4_rounds_0 : decode cX4_rounds 0 = .ok (.aload_n 0, 1) := by decide +kernel
theorem dX4_rounds_1 : decode cX4_rounds 1 = .ok (.getfield 22, 3) := by decide +kernel
theorem dX4_rounds_4 : decode cX4_rounds 4 = .ok (.aload_n 0, 1) := by decide +kernel
theorem dX4_rounds_5 : decode cX4_rounds 5 = .ok (.getfield 18, 3) := by decide +kernel
theorem dX4_rounds_8 : decode cX4_rounds 8 = .ok (.invokevirtual 73, 3) := by decide +kernel
theorem dX4_rounds_11 : decode cX4_rounds 11 = .ok (.iconst 0, 1) := by decide +kernel
theorem dX4_rounds_12 : decode cX4_rounds 12 = .ok (.istore_n 1, 1) := by decide +kernel
theorem dX4_rounds_13 : decode cX4_rounds 13 = .ok (.iload_n 1, 1) := by decide +kernel
theorem dX4_rounds_14 : decode cX4_rounds 14 = .ok (.sipush 500, 3) := by decide +kernel
theorem dX4_rounds_17 : decode cX4_rounds 17 = .ok (.if_icmp .gt 21, 3) := by decide +kernel
theorem dX4_rounds_20 : decode cX4_rounds 20 = .ok (.aload_n 0, 1) := by decide +kernel
theorem dX4_rounds_21 : decode cX4_rounds 21 = .ok (.getfield 22, 3) := by decide +kernel
theorem dX4_rounds_24 : decode cX4_rounds 24 = .ok (.invokevirtual 195, 3) := by decide +kernel
theorem dX4_rounds_27 : decode cX4_rounds 27 = .ok (.ifCond .ne 5, 3) := by decide +kernel
theorem dX4_rounds_30 : decode cX4_rounds 30 = .ok (.iload_n 1, 1) := by decide +kernel
theorem dX4_rounds_31 : decode cX4_rounds 31 = .ok (.ireturn, 1) := by decide +kernel
theorem dX4_rounds_32 : decode cX4_rounds 32 = .ok (.iinc 1 1, 3) := by decide +kernel
theorem dX4_rounds_35 : decode cX4_rounds 35 = .ok (.goto (-22), 3) := by decide +kernel
theorem dX4_rounds_38 : decode cX4_rounds 38 = .ok (.bipush (-2), 2) := by decide +kernel
theorem dX4_rounds_40 : decode cX4_rounds 40 = .ok (.ireturn, 1) := by decide +kernel
set_option maxRecDepth 20000 in
theorem ggX4_alike_X4_isOrder : GoodIn wsX4_alike wsX4_isOrder := goodIn_r _ [6] (by decide +kernel) (by decide +kernel)
set_option maxRecDepth 20000 in
theorem gX4_alike_X4_isOrder : GoodIn wsX4_alike (va_wsS RX4 182 yX4_isOrder wsX4_isOrder) := goodIn_app (goodIn_of _ (by decide +kernel)) ggX4_alike_X4_isOrder
set_option maxRecDepth 20000 in
theorem ggX4_alike_X4_isStepLimit : GoodIn wsX4_alike wsX4_isStepLimit := goodIn_r _ [9] (by decide +kernel) (by decide +kernel)
set_option maxRecDepth 20000 in
theorem gX4_alike_X4_isStepLimit : GoodIn wsX4_alike (va_wsS RX4 185 yX4_isStepLimit wsX4_isStepLimit) := goodIn_app (goodIn_of _ (by decide +kernel)) ggX4_alike_X4_isStepLimit
set_option maxRecDepth 20000 in
theorem ggX4_alike_X4_looksAtEnd : GoodIn wsX4_alike wsX4_looksAtEnd := goodIn_r _ [13, 14, 15, 16, 17, 18, 19, 20, 21, 22, 23, 24, 25, 26, 27, 28, 29, 30, 31, 32, 33, 34, 35, 36, 37, 38, 39, 40, 41, 42, 43, 44, 45, 46, 47, 48, 49, 50, 51, 52, 53, 54, 55, 56, 57, 58, 59, 60, 61, 62, 63, 64, 65, 66, 67, 68, 69, 70, 71, 72, 73, 74, 75, 76, 77, 78, 79, 80, 81, 82, 83, 84, 85, 86, 87, 88, 89, 90, 91, 92, 93, 94, 95, 96, 97, 98, 99, 100, 101, 102, 103, 104, 105, 106, 107, 108, 109, 110, 111, 112, 113, 114, 115, 116, 117, 118, 119, 120, 121, 122, 123, 124, 125, 126, 127, 128, 129, 130, 131, 132, 133, 134, 135, 136, 137, 138, 139, 140, 141, 142, 143, 144, 145, 146, 147, 148, 149, 150, 151, 152, 153, 154, 155, 156, 157, 158, 159, 160, 161, 162, 163, 164, 165, 166, 167, 168, 169, 170, 171, 172, 173, 174, 175, 176, 177, 178, 179, 180, 181, 182, 183, 184, 185, 186, 187, 188, 189, 190, 191, 192, 193, 194, 195, 196, 197, 198, 199, 200, 201, 202, 203, 204, 205, 206, 207, 208, 213, 214, 215, 216, 217, 218, 219, 220, 221, 222, 223, 224, 225, 226, 227, 228, 229, 230, 231, 232, 233, 234, 235, 236, 237, 238, 239, 240, 241, 242, 243, 244, 245, 246, 247, 248, 249] (by decide +kernel) (by decide +kernel)
set_option maxRecDepth 20000 in
theorem gX4_alike_X4_looksAtEnd : GoodIn wsX4_alike (wsV RX4 207 RX4 yX4_looksAtEnd wsX4_looksAtEnd) := goodIn_app (goodIn_of _ (by decide +kernel)) ggX4_alike_X4_looksAtEnd
set_option maxRecDepth 20000 in
theorem ggX4_alike_X2_isLike : GoodIn wsX4_alike wsX2_isLike := goodIn_r _ [212, 169, 182, 242, 243, 244, 245, 246, 247, 248, 249] (by decide +kernel) (by decide +kernel)
set_option maxRecDepth 20000 in
theorem gX4_alike_X2_isLike : GoodIn wsX4_alike (wsV RX4 211 RX2 yX2_isLike wsX2_isLike) := goodIn_app (goodIn_of _ (by decide +kernel)) ggX4_alike_X2_isLike
theorem dX4_alike_0 : decode cX4_alike 0 = .ok (.iload_n 1, 1) := by decide +kernel
theorem dX4_alike_1 : decode cX4_alike 1 = .ok (.invokestatic 182, 3) := by decide +kernel
theorem dX4_alike_4 : decode cX4_alike 4 = .ok (.ifCond .eq 17, 3) := by decide +kernel
theorem dX4_alike_7 : decode cX4_alike 7 = .ok (.iload_n 2, 1) := by decide +kernel
theorem dX4_alike_8 : decode cX4_alike 8 = .ok (.invokestatic 182, 3) := by decide +kernel
theorem dX4_alike_11 : decode cX4_alike 11 = .ok (.ifCond .eq 10, 3) := by decide +kernel
theorem dX4_alike_14 : decode cX4_alike 14 = .ok (.iload_n 3, 1) := by decide +kernel
theorem dX4_alike_15 : decode cX4_alike 15 = .ok (.invokestatic 185, 3) := by decide +kernel
theorem dX4_alike_18 : decode cX4_alike 18 = .ok (.ifCond .ne 5, 3) := by decide +kernel
theorem dX4_alike_21 : decode cX4_alike 21 = .ok (.iconst (-1), 1) := by decide +kernel
theorem dX4_alike_22 : decode cX4_alike 22 = .ok (.ireturn, 1) := by decide +kernel
theorem dX4_alike_23 : decode cX4_alike 23 = .ok (.aload_n 0, 1) := by decide +kernel
theorem dX4_alike_24 : decode cX4_alike 24 = .ok (.iload_n 1, 1) := by decide +kernel
theorem dX4_alike_25 : decode cX4_alike 25 = .ok (.iload_n 3, 1) := by decide +kernel
theorem dX4_alike_26 : decode cX4_alike 26 = .ok (.iload 4, 2) := by decide +kernel
theorem dX4_alike_28 : decode cX4_alike 28 = .ok (.aload_n 0, 1) := by decide +kernel
theorem dX4_alike_29 : decode cX4_alike 29 = .ok (.getfield 35, 3) := by decide +kernel
theorem dX4_alike_32 : decode cX4_alike 32 = .ok (.invokevirtual 207, 3) := by decide +kernel
theorem dX4_alike_35 : decode cX4_alike 35 = .ok (.ifCond .eq 18, 3) := by decide +kernel
theorem dX4_alike_38 : decode cX4_alike 38 = .ok (.aload_n 0, 1) := by decide +kernel
theorem dX4_alike_39 : decode cX4_alike 39 = .ok (.iload_n 2, 1) := by decide +kernel
theorem dX4_alike_40 : decode cX4_alike 40 = .ok (.iload_n 3, 1) := by decide +kernel
theorem dX4_alike_41 : decode cX4_alike 41 = .ok (.iload 4, 2) := by decide +kernel
theorem dX4_alike_43 : decode cX4_alike 43 = .ok (.aload_n 0, 1) := by decide +kernel
theorem dX4_alike_44 : decode cX4_alike 44 = .ok (.getfield 39, 3) := by decide +kernel
theorem dX4_alike_47 : decode cX4_alike 47 = .ok (.invokevirtual 207, 3) := by decide +kernel
theorem dX4_alike_50 : decode cX4_alike 50 = .ok (.ifCond .ne 6, 3) := by decide +kernel
theorem dX4_alike_53 : decode cX4_alike 53 = .ok (.bipush (-2), 2) := by decide +kernel
theorem dX4_alike_55 : decode cX4_alike 55 = .ok (.ireturn, 1) := by decide +kernel
theorem dX4_alike_56 : decode cX4_alike 56 = .ok (.aload_n 0, 1) := by decide +kernel
theorem dX4_alike_57 : decode cX4_alike 57 = .ok (.getfield 35, 3) := by decide +kernel
theorem dX4_alike_60 : decode cX4_alike 60 = .ok (.aload_n 0, 1) := by decide +kernel
theorem dX4_alike_61 : decode cX4_alike 61 = .ok (.getfield 39, 3) := by decide +kernel
theorem dX4_alike_64 : decode cX4_alike 64 = .ok (.invokevirtual 211, 3) := by decide +kernel
theorem dX4_alike_67 : decode cX4_alike 67 = .ok (.ifCond .eq 7, 3) := by decide +kernel
theorem dX4_alike_70 : decode cX4_alike 70 = .ok (.iconst 1, 1) := by decide +kernel
theorem dX4_alike_71 : decode cX4_alike 71 = .ok (.goto 4, 3) := by decide +kernel
theorem dX4_alike_74 : decode cX4_alike 74 = .ok (.iconst 0, 1) := by decide +kernel
theorem dX4_alike_75 : decode cX4_alike 75 = .ok (.ireturn, 1) := by decide +kernel
set_option maxRecDepth 20000 in
theorem ggX4_likeImage_X4_imageAt : GoodIn wsX4_likeImage wsX4_imageAt := goodIn_r _ [8, 9, 10, 71, 72, 73, 74, 75, 76, 77, 78, 79, 80, 81, 82] (by decide +kernel) (by decide +kernel)
set_option maxRecDepth 20000 in
theorem gX4_likeImage_X4_imageAt : GoodIn wsX4_likeImage (wsV RX4 215 RX4 yX4_imageAt wsX4_imageAt) := goodIn_app (goodIn_of _ (by decide +kernel)) ggX4_likeImage_X4_imageAt
set_option maxRecDepth 20000 in
theorem ggX4_likeImage_X2_look : GoodIn wsX4_likeImage wsX2_look := goodIn_r _ [15, 16, 17, 18, 19, 20, 21, 22, 23, 24, 25, 26, 27, 28, 29, 30, 31, 14, 32, 33, 34, 35, 36, 37, 38, 39, 40, 41, 42, 43, 44, 45, 46, 47, 48, 49, 50, 51, 52, 53, 54, 55, 56, 57, 58, 59, 60, 61, 62, 63, 64, 65, 66, 83, 84, 85, 86, 87, 88, 89, 90, 91, 92, 93, 94, 95, 96, 97, 98, 99, 100, 101, 102, 103, 104, 105] (by decide +kernel) (by decide +kernel)
set_option maxRecDepth 20000 in
theorem gX4_likeImage_X2_look : GoodIn wsX4_likeImage (wsV RX4 170 RX2 yX2_look wsX2_look) := goodIn_app (goodIn_of _ (by decide +kernel)) ggX4_likeImage_X2_look
set_option maxRecDepth 20000 in
theorem ggX4_likeImage_X2_isLike : GoodIn wsX4_likeImage wsX2_isLike := goodIn_r _ [70, 18, 33, 83, 84, 85, 86, 87, 88, 89, 90] (by decide +kernel) (by decide +kernel)
set_option maxRecDepth 20000 in
theorem gX4_likeImage_X2_isLike : GoodIn wsX4_likeImage (wsV RX4 211 RX2 yX2_isLike wsX2_isLike) := goodIn_app (goodIn_of _ (by decide +kernel)) ggX4_likeImage_X2_isLike
theorem dX4_likeImage_0 : decode cX4_likeImage 0 = .ok (.aload_n 0, 1) := by decide +kernel
theorem dX4_likeImage_1 : decode cX4_likeImage 1 = .ok (.iload_n 1, 1) := by decide +kernel
theorem dX4_likeImage_2 : decode cX4_likeImage 2 = .ok (.invokevirtual 215, 3) := by decide +kernel
theorem dX4_likeImage_5 : decode cX4_likeImage 5 = .ok (.astore_n 2, 1) := by decide +kernel
theorem dX4_likeImage_6 : decode cX4_likeImage 6 = .ok (.aload_n 2, 1) := by decide +kernel
theorem dX4_likeImage_7 : decode cX4_likeImage 7 = .ok (.ifnonnull 5, 3) := by decide +kernel
theorem dX4_likeImage_10 : decode cX4_likeImage 10 = .ok (.iconst (-1), 1) := by decide +kernel
theorem dX4_likeImage_11 : decode cX4_likeImage 11 = .ok (.ireturn, 1) := by decide +kernel
theorem dX4_likeImage_12 : decode cX4_likeImage 12 = .ok (.aload_n 0, 1) := by decide +kernel
theorem dX4_likeImage_13 : decode cX4_likeImage 13 = .ok (.getfield 35, 3) := by decide +kernel
theorem dX4_likeImage_16 : decode cX4_likeImage 16 = .ok (.aload_n 0, 1) := by decide +kernel
theorem dX4_likeImage_17 : decode cX4_likeImage 17 = .ok (.getfield 18, 3) := by decide +kernel
theorem dX4_likeImage_20 : decode cX4_likeImage 20 = .ok (.invokevirtual 170, 3) := by decide +kernel
theorem dX4_likeImage_23 : decode cX4_likeImage 23 = .ok (.aload_n 0, 1) := by decide +kernel
theorem dX4_likeImage_24 : decode cX4_likeImage 24 = .ok (.getfield 39, 3) := by decide +kernel
theorem dX4_likeImage_27 : decode cX4_likeImage 27 = .ok (.aload_n 2, 1) := by decide +kernel
theorem dX4_likeImage_28 : decode cX4_likeImage 28 = .ok (.invokevirtual 170, 3) := by decide +kernel
theorem dX4_likeImage_31 : decode cX4_likeImage 31 = .ok (.aload_n 0, 1) := by decide +kernel
theorem dX4_likeImage_32 : decode cX4_likeImage 32 = .ok (.getfield 35, 3) := by decide +kernel
theorem dX4_likeImage_35 : decode cX4_likeImage 35 = .ok (.aload_n 0, 1) := by decide +kernel
theorem dX4_likeImage_36 : decode cX4_likeImage 36 = .ok (.getfield 39, 3) := by decide +kernel
theorem dX4_likeImage_39 : decode cX4_likeImage 39 = .ok (.invokevirtual 211, 3) := by decide +kernel
theorem dX4_likeImage_42 : decode cX4_likeImage 42 = .ok (.ifCond .eq 7, 3) := by decide +kernel
theorem dX4_likeImage_45 : decode cX4_likeImage 45 = .ok (.iconst 1, 1) := by decide +kernel
theorem dX4_likeImage_46 : decode cX4_likeImage 46 = .ok (.goto 4, 3) := by decide +kernel
theorem dX4_likeImage_49 : decode cX4_likeImage 49 = .ok (.iconst 0, 1) := by decide +kernel
theorem dX4_likeImage_50 : decode cX4_likeImage 50 = .ok (.ireturn, 1) := by decide +kernel
set_option maxRecDepth 20000 in
theorem ggX4_put_X0_hasRoot : GoodIn wsX4_put wsX0_hasRoot := goodIn_r _ [6, 7, 142, 143, 144, 145, 146, 147, 148, 149, 150, 151, 152, 153, 154, 155, 156] (by decide +kernel) (by decide +kernel)
set_option maxRecDepth 20000 in
theorem gX4_put_X0_hasRoot : GoodIn wsX4_put (wsV RX4 137 RX0 yX0_hasRoot wsX0_hasRoot) := goodIn_app (goodIn_of _ (by decide +kernel)) ggX4_put_X0_hasRoot
set_option maxRecDepth 20000 in
theorem ggX4_put_X0_numberSize : GoodIn wsX4_put wsX0_numberSize := goodIn_r _ [10] (by decide +kernel) (by decide +kernel)
set_option maxRecDepth 20000 in
theorem gX4_put_X0_numberSize : GoodIn wsX4_put (va_wsS RX4 219 yX0_numberSize wsX0_numberSize) := goodIn_app (goodIn_of _ (by decide +kernel)) ggX4_put_X0_numberSize
set_option maxRecDepth 20000 in
theorem ggX4_put_X0_hasRoom : GoodIn wsX4_put wsX0_hasRoom := goodIn_r _ [14, 15, 16, 142, 143, 144, 145, 146, 147, 148, 149, 150, 151, 152, 153, 154, 155, 156] (by decide +kernel) (by decide +kernel)
set_option maxRecDepth 20000 in
theorem gX4_put_X0_hasRoom : GoodIn wsX4_put (wsV RX4 222 RX0 yX0_hasRoom wsX0_hasRoom) := goodIn_app (goodIn_of _ (by decide +kernel)) ggX4_put_X0_hasRoom
set_option maxRecDepth 20000 in
theorem ggX4_put_X4_remember : GoodIn wsX4_put wsX4_remember := goodIn_r _ [21, 22, 23, 24, 25, 26, 5, 1, 27, 28, 29, 30, 31, 32, 33, 34, 35, 36, 37, 38, 39, 40, 41, 42, 43, 44, 45, 7, 46, 47, 48, 49, 50, 51, 52, 53, 54, 55, 56, 57, 58, 16, 15, 59, 60, 61, 62, 63, 64, 65, 66, 67, 68, 69, 70, 71, 72, 73, 74, 75, 76, 77, 78, 79, 80, 81, 82, 83, 84, 85, 86, 87, 88, 89, 130, 131, 132, 133, 134, 135, 136, 137, 138, 139, 140, 141, 142, 143, 144, 145, 146, 147, 148, 149, 150, 151, 152, 153, 154, 155, 156, 157, 158] (by decide +kernel) (by decide +kernel)
set_option maxRecDepth 20000 in
theorem gX4_put_X4_remember : GoodIn wsX4_put (wsV RX4 188 RX4 yX4_remember wsX4_remember) := goodIn_app (goodIn_of _ (by decide +kernel)) ggX4_put_X4_remember
set_option maxRecDepth 20000 in
theorem ggX4_put_X0_makeNumber : GoodIn wsX4_put wsX0_makeNumber := goodIn_r _ [93, 94, 95, 96, 5, 97, 61, 62, 34, 15, 59, 98, 99, 100, 101, 16, 35, 102, 103, 104, 105, 7, 142, 143, 144, 145, 146, 147, 148, 149, 150, 151, 152, 153, 154, 155, 156] (by decide +kernel) (by decide +kernel)
set_option maxRecDepth 20000 in
theorem gX4_put_X0_makeNumber : GoodIn wsX4_put (wsV RX4 225 RX0 yX0_makeNumber wsX0_makeNumber) := goodIn_app (goodIn_of _ (by decide +kernel)) ggX4_put_X0_makeNumber
set_option maxRecDepth 20000 in
theorem ggX4_put_X0_endRoot : GoodIn wsX4_put wsX0_endRoot := goodIn_r _ [109, 7, 110, 3, 4, 5, 6, 111, 112, 113, 114, 115, 116, 117, 118, 119, 120, 121, 122, 40, 56, 57, 44, 58, 34, 102, 103, 104, 105, 123, 124, 125, 126, 127, 128, 39, 129, 51, 50, 142, 143, 144, 145, 146, 147, 148, 149, 150, 151, 152, 153, 154, 155, 156, 157, 158] (by decide +kernel) (by decide +kernel)
set_option maxRecDepth 20000 in
theorem gX4_put_X0_endRoot : GoodIn wsX4_put (wsV RX4 228 RX0 yX0_endRoot wsX0_endRoot) := goodIn_app (goodIn_of _ (by decide +kernel)) ggX4_put_X0_endRoot
theorem dX4_put_0 : decode cX4_put 0 = .ok (.aload_n 0, 1) := by decide +kernel
theorem dX4_put_1 : decode cX4_put 1 = .ok (.getfield 18, 3) := by decide +kernel
theorem dX4_put_4 : decode cX4_put 4 = .ok (.iload_n 1, 1) := by decide +kernel
theorem dX4_put_5 : decode cX4_put 5 = .ok (.invokevirtual 137, 3) := by decide +kernel
theorem dX4_put_8 : decode cX4_put 8 = .ok (.ifCond .eq 27, 3) := by decide +kernel
theorem dX4_put_11 : decode cX4_put 11 = .ok (.iload_n 2, 1) := by decide +kernel
theorem dX4_put_12 : decode cX4_put 12 = .ok (.ifCond .lt 23, 3) := by decide +kernel
theorem dX4_put_15 : decode cX4_put 15 = .ok (.iload_n 2, 1) := by decide +kernel
theorem dX4_put_16 : decode cX4_put 16 = .ok (.bipush 20, 2) := by decide +kernel
theorem dX4_put_18 : decode cX4_put 18 = .ok (.if_icmp .gt 17, 3) := by decide +kernel
theorem dX4_put_21 : decode cX4_put 21 = .ok (.aload_n 0, 1) := by decide +kernel
theorem dX4_put_22 : decode cX4_put 22 = .ok (.getfield 18, 3) := by decide +kernel
theorem dX4_put_25 : decode cX4_put 25 = .ok (.iload_n 2, 1) := by decide +kernel
theorem dX4_put_26 : decode cX4_put 26 = .ok (.invokestatic 219, 3) := by decide +kernel
theorem dX4_put_29 : decode cX4_put 29 = .ok (.invokevirtual 222, 3) := by decide +kernel
theorem dX4_put_32 : decode cX4_put 32 = .ok (.ifCond .ne 5, 3) := by decide +kernel
theorem dX4_put_35 : decode cX4_put 35 = .ok (.iconst (-1), 1) := by decide +kernel
theorem dX4_put_36 : decode cX4_put 36 = .ok (.ireturn, 1) := by decide +kernel
theorem dX4_put_37 : decode cX4_put 37 = .ok (.aload_n 0, 1) := by decide +kernel
theorem dX4_put_38 : decode cX4_put 38 = .ok (.invokevirtual 188, 3) := by decide +kernel
theorem dX4_put_41 : decode cX4_put 41 = .ok (.aload_n 0, 1) := by decide +kernel
theorem dX4_put_42 : decode cX4_put 42 = .ok (.getfield 18, 3) := by decide +kernel
theorem dX4_put_45 : decode cX4_put 45 = .ok (.iload_n 1, 1) := by decide +kernel
theorem dX4_put_46 : decode cX4_put 46 = .ok (.aload_n 0, 1) := by decide +kernel
theorem dX4_put_47 : decode cX4_put 47 = .ok (.getfield 18, 3) := by decide +kernel
theorem dX4_put_50 : decode cX4_put 50 = .ok (.iload_n 2, 1) := by decide +kernel
theorem dX4_put_51 : decode cX4_put 51 = .ok (.invokevirtual 225, 3) := by decide +kernel
theorem dX4_put_54 : decode cX4_put 54 = .ok (.invokevirtual 228, 3) := by decide +kernel
theorem dX4_put_57 : decode cX4_put 57 = .ok (.aload_n 0, 1) := by decide +kernel
theorem dX4_put_58 : decode cX4_put 58 = .ok (.getfield 18, 3) := by decide +kernel
theorem dX4_put_61 : decode cX4_put 61 = .ok (.getfield 83, 3) := by decide +kernel
theorem dX4_put_64 : decode cX4_put 64 = .ok (.ireturn, 1) := by decide +kernel
set_option maxRecDepth 20000 in
theorem ggX4_split_X4_branchRoot : GoodIn wsX4_split wsX4_branchRoot := goodIn_r _ [5, 6, 7, 8, 9, 10, 11, 12, 13, 14, 15, 16, 17, 18, 19, 20, 21, 4, 22, 23, 24, 25, 26, 27, 28, 29, 30, 31, 32, 33, 34, 35, 36, 37, 38, 39, 40, 41, 42, 43, 44, 45, 46, 47, 48, 49, 50, 51, 52, 53, 54, 55, 56, 57, 58, 59, 60, 61, 62, 63, 64, 65, 66, 67, 68, 69, 70, 71, 72, 73, 74, 75, 76, 77, 78, 79, 80, 81, 82, 83, 84, 85, 86, 87, 88, 89, 90, 91, 92, 93, 94, 95, 96, 97, 98, 99, 100, 101, 102, 103, 104, 105, 106, 107, 108, 109, 110, 111, 112, 113, 114, 115, 116, 117, 118, 119, 120, 121, 122, 123, 124, 125, 126, 127, 128, 129, 130, 131, 132, 133, 134, 135, 136, 137, 138, 139, 140, 141, 142, 143, 144, 145, 146, 147, 148, 149, 150, 151, 152, 153, 154, 155, 156, 157, 158, 159] (by decide +kernel) (by decide +kernel)
set_option maxRecDepth 20000 in
theorem gX4_split_X4_branchRoot : GoodIn wsX4_split (wsV RX4 232 RX4 yX4_branchRoot wsX4_branchRoot) := goodIn_app (goodIn_of _ (by decide +kernel)) ggX4_split_X4_branchRoot
theorem dX4_split_0 : decode cX4_split 0 = .ok (.aload_n 0, 1) := by decide +kernel
theorem dX4_split_1 : decode cX4_split 1 = .ok (.iload_n 1, 1) := by decide +kernel
theorem dX4_split_2 : decode cX4_split 2 = .ok (.iconst 1, 1) := by decide +kernel
theorem dX4_split_3 : decode cX4_split 3 = .ok (.invokevirtual 232, 3) := by decide +kernel
theorem dX4_split_6 : decode cX4_split 6 = .ok (.ireturn, 1) := by decide +kernel
set_option maxRecDepth 20000 in
theorem ggX4_twice_X4_branchRoot : GoodIn wsX4_twice wsX4_branchRoot := goodIn_r _ [5, 6, 7, 8, 9, 10, 11, 12, 13, 14, 15, 16, 17, 18, 19, 20, 21, 4, 22, 23, 24, 25, 26, 27, 28, 29, 30, 31, 32, 33, 34, 35, 36, 37, 38, 39, 40, 41, 42, 43, 44, 45, 46, 47, 48, 49, 50, 51, 52, 53, 54, 55, 56, 57, 58, 59, 60, 61, 62, 63, 64, 65, 66, 67, 68, 69, 70, 71, 72, 73, 74, 75, 76, 77, 78, 79, 80, 81, 82, 83, 84, 85, 86, 87, 88, 89, 90, 91, 92, 93, 94, 95, 96, 97, 98, 99, 100, 101, 102, 103, 104, 105, 106, 107, 108, 109, 110, 111, 112, 113, 114, 115, 116, 117, 118, 119, 120, 121, 122, 123, 124, 125, 126, 127, 128, 129, 130, 131, 132, 133, 134, 135, 136, 137, 138, 139, 140, 141, 142, 143, 144, 145, 146, 147, 148, 149, 150, 151, 152, 153, 154, 155, 156, 157, 158, 159] (by decide +kernel) (by decide +kernel)
set_option maxRecDepth 20000 in
theorem gX4_twice_X4_branchRoot : GoodIn wsX4_twice (wsV RX4 232 RX4 yX4_branchRoot wsX4_branchRoot) := goodIn_app (goodIn_of _ (by decide +kernel)) ggX4_twice_X4_branchRoot
theorem dX4_twice_0 : decode cX4_twice 0 = .ok (.aload_n 0, 1) := by decide +kernel
theorem dX4_twice_1 : decode cX4_twice 1 = .ok (.iload_n 1, 1) := by decide +kernel
theorem dX4_twice_2 : decode cX4_twice 2 = .ok (.iconst 2, 1) := by decide +kernel
theorem dX4_twice_3 : decode cX4_twice 3 = .ok (.invokevirtual 232, 3) := by decide +kernel
theorem dX4_twice_6 : decode cX4_twice 6 = .ok (.ireturn, 1) := by decide +kernel
set_option maxRecDepth 20000 in
theorem ggX4_drop_X0_hasRoot : GoodIn wsX4_drop wsX0_hasRoot := goodIn_r _ [6, 7, 135, 136, 137, 138, 139, 140, 141, 142, 143, 144, 145, 146, 147, 148, 149] (by decide +kernel) (by decide +kernel)
set_option maxRecDepth 20000 in
theorem gX4_drop_X0_hasRoot : GoodIn wsX4_drop (wsV RX4 137 RX0 yX0_hasRoot wsX0_hasRoot) := goodIn_app (goodIn_of _ (by decide +kernel)) ggX4_drop_X0_hasRoot
set_option maxRecDepth 20000 in
theorem ggX4_drop_X0_hasRoom : GoodIn wsX4_drop wsX0_hasRoom := goodIn_r _ [11, 12, 13, 135, 136, 137, 138, 139, 140, 141, 142, 143, 144, 145, 146, 147, 148, 149] (by decide +kernel) (by decide +kernel)
set_option maxRecDepth 20000 in
theorem gX4_drop_X0_hasRoom : GoodIn wsX4_drop (wsV RX4 222 RX0 yX0_hasRoom wsX0_hasRoom) := goodIn_app (goodIn_of _ (by decide +kernel)) ggX4_drop_X0_hasRoom
set_option maxRecDepth 20000 in
theorem ggX4_drop_X4_remember : GoodIn wsX4_drop wsX4_remember := goodIn_r _ [18, 19, 20, 21, 22, 23, 5, 1, 24, 25, 26, 27, 28, 29, 30, 31, 32, 33, 34, 35, 36, 37, 38, 39, 40, 41, 42, 7, 43, 44, 45, 46, 47, 48, 49, 50, 51, 52, 53, 54, 55, 13, 12, 56, 57, 58, 59, 60, 61, 62, 63, 64, 65, 66, 67, 68, 69, 70, 71, 72, 73, 74, 75, 76, 77, 78, 79, 80, 81, 82, 83, 84, 85, 86, 123, 124, 125, 126, 127, 128, 129, 130, 131, 132, 133, 134, 135, 136, 137, 138, 139, 140, 141, 142, 143, 144, 145, 146, 147, 148, 149, 150, 151] (by decide +kernel) (by decide +kernel)
set_option maxRecDepth 20000 in
theorem gX4_drop_X4_remember : GoodIn wsX4_drop (wsV RX4 188 RX4 yX4_remember wsX4_remember) := goodIn_app (goodIn_of _ (by decide +kernel)) ggX4_drop_X4_remember
set_option maxRecDepth 20000 in
theorem ggX4_drop_X0_make : GoodIn wsX4_drop wsX0_make := goodIn_r _ [90, 58, 59, 31, 12, 56, 91, 92, 93, 5, 94, 13, 32, 135, 136, 137, 138, 139, 140, 141, 142, 143, 144, 145, 146, 147, 148, 149] (by decide +kernel) (by decide +kernel)
set_option maxRecDepth 20000 in
theorem gX4_drop_X0_make : GoodIn wsX4_drop (wsV RX4 235 RX0 yX0_make wsX0_make) := goodIn_app (goodIn_of _ (by decide +kernel)) ggX4_drop_X0_make
set_option maxRecDepth 20000 in
theorem ggX4_drop_X0_endRoot : GoodIn wsX4_drop wsX0_endRoot := goodIn_r _ [98, 7, 99, 3, 4, 5, 6, 100, 101, 102, 103, 104, 105, 106, 107, 108, 109, 110, 111, 37, 53, 54, 41, 55, 31, 112, 113, 114, 115, 116, 117, 118, 119, 120, 121, 36, 122, 48, 47, 135, 136, 137, 138, 139, 140, 141, 142, 143, 144, 145, 146, 147, 148, 149, 150, 151] (by decide +kernel) (by decide +kernel)
set_option maxRecDepth 20000 in
theorem gX4_drop_X0_endRoot : GoodIn wsX4_drop (wsV RX4 228 RX0 yX0_endRoot wsX0_endRoot) := goodIn_app (goodIn_of _ (by decide +kernel)) ggX4_drop_X0_endRoot
theorem dX4_drop_0 : decode cX4_drop 0 = .ok (.aload_n 0, 1) := by decide +kernel
theorem dX4_drop_1 : decode cX4_drop 1 = .ok (.getfield 18, 3) := by decide +kernel
theorem dX4_drop_4 : decode cX4_drop 4 = .ok (.iload_n 1, 1) := by decide +kernel
theorem dX4_drop_5 : decode cX4_drop 5 = .ok (.invokevirtual 137, 3) := by decide +kernel
theorem dX4_drop_8 : decode cX4_drop 8 = .ok (.ifCond .eq 14, 3) := by decide +kernel
theorem dX4_drop_11 : decode cX4_drop 11 = .ok (.aload_n 0, 1) := by decide +kernel
theorem dX4_drop_12 : decode cX4_drop 12 = .ok (.getfield 18, 3) := by decide +kernel
theorem dX4_drop_15 : decode cX4_drop 15 = .ok (.iconst 1, 1) := by decide +kernel
theorem dX4_drop_16 : decode cX4_drop 16 = .ok (.invokevirtual 222, 3) := by decide +kernel
theorem dX4_drop_19 : decode cX4_drop 19 = .ok (.ifCond .ne 5, 3) := by decide +kernel
theorem dX4_drop_22 : decode cX4_drop 22 = .ok (.iconst (-1), 1) := by decide +kernel
theorem dX4_drop_23 : decode cX4_drop 23 = .ok (.ireturn, 1) := by decide +kernel
theorem dX4_drop_24 : decode cX4_drop 24 = .ok (.aload_n 0, 1) := by decide +kernel
theorem dX4_drop_25 : decode cX4_drop 25 = .ok (.invokevirtual 188, 3) := by decide +kernel
theorem dX4_drop_28 : decode cX4_drop 28 = .ok (.aload_n 0, 1) := by decide +kernel
theorem dX4_drop_29 : decode cX4_drop 29 = .ok (.getfield 18, 3) := by decide +kernel
theorem dX4_drop_32 : decode cX4_drop 32 = .ok (.iload_n 1, 1) := by decide +kernel
theorem dX4_drop_33 : decode cX4_drop 33 = .ok (.iconst 3, 1) := by decide +kernel
theorem dX4_drop_34 : decode cX4_drop 34 = .ok (.aload_n 0, 1) := by decide +kernel
theorem dX4_drop_35 : decode cX4_drop 35 = .ok (.getfield 18, 3) := by decide +kernel
theorem dX4_drop_38 : decode cX4_drop 38 = .ok (.iconst 0, 1) := by decide +kernel
theorem dX4_drop_39 : decode cX4_drop 39 = .ok (.invokevirtual 235, 3) := by decide +kernel
theorem dX4_drop_42 : decode cX4_drop 42 = .ok (.imul, 1) := by decide +kernel
theorem dX4_drop_43 : decode cX4_drop 43 = .ok (.invokevirtual 228, 3) := by decide +kernel
theorem dX4_drop_46 : decode cX4_drop 46 = .ok (.aload_n 0, 1) := by decide +kernel
theorem dX4_drop_47 : decode cX4_drop 47 = .ok (.getfield 18, 3) := by decide +kernel
theorem dX4_drop_50 : decode cX4_drop 50 = .ok (.getfield 83, 3) := by decide +kernel
theorem dX4_drop_53 : decode cX4_drop 53 = .ok (.ireturn, 1) := by decide +kernel
set_option maxRecDepth 20000 in
theorem ggX4_join_X0_hasRoot : GoodIn wsX4_join wsX0_hasRoot := goodIn_r _ [6, 7, 127, 128, 129, 130, 131, 132, 133, 134, 135, 136, 137, 138, 139, 140, 141] (by decide +kernel) (by decide +kernel)
set_option maxRecDepth 20000 in
theorem gX4_join_X0_hasRoot : GoodIn wsX4_join (wsV RX4 137 RX0 yX0_hasRoot wsX0_hasRoot) := goodIn_app (goodIn_of _ (by decide +kernel)) ggX4_join_X0_hasRoot
set_option maxRecDepth 20000 in
theorem ggX4_join_X4_remember : GoodIn wsX4_join wsX4_remember := goodIn_r _ [12, 13, 14, 15, 16, 17, 5, 1, 18, 19, 20, 21, 22, 23, 24, 25, 26, 27, 28, 29, 30, 31, 32, 33, 34, 35, 36, 7, 37, 38, 39, 40, 41, 42, 43, 44, 45, 46, 47, 48, 49, 50, 51, 52, 53, 54, 55, 56, 57, 58, 59, 60, 61, 62, 63, 64, 65, 66, 67, 68, 69, 70, 71, 72, 73, 74, 75, 76, 77, 78, 79, 80, 81, 82, 115, 116, 117, 118, 119, 120, 121, 122, 123, 124, 125, 126, 127, 128, 129, 130, 131, 132, 133, 134, 135, 136, 137, 138, 139, 140, 141, 142, 143] (by decide +kernel) (by decide +kernel)
set_option maxRecDepth 20000 in
theorem gX4_join_X4_remember : GoodIn wsX4_join (wsV RX4 188 RX4 yX4_remember wsX4_remember) := goodIn_app (goodIn_of _ (by decide +kernel)) ggX4_join_X4_remember
set_option maxRecDepth 20000 in
theorem ggX4_join_X0_joinRoots : GoodIn wsX4_join wsX0_joinRoots := goodIn_r _ [86, 7, 87, 3, 4, 5, 6, 88, 89, 90, 91, 57, 92, 93, 94, 95, 96, 97, 98, 99, 31, 47, 48, 35, 49, 25, 100, 101, 102, 103, 104, 105, 106, 107, 108, 109, 30, 110, 42, 41, 127, 128, 129, 130, 131, 132, 133, 134, 135, 136, 137, 138, 139, 140, 141, 142, 143] (by decide +kernel) (by decide +kernel)
set_option maxRecDepth 20000 in
theorem gX4_join_X0_joinRoots : GoodIn wsX4_join (wsV RX4 238 RX0 yX0_joinRoots wsX0_joinRoots) := goodIn_app (goodIn_of _ (by decide +kernel)) ggX4_join_X0_joinRoots
set_option maxRecDepth 20000 in
theorem ggX4_join_X0_rootsThere : GoodIn wsX4_join wsX0_rootsThere := goodIn_r _ [114, 87, 3, 4, 5, 6, 7, 127, 128, 129, 130, 131, 132, 133, 134, 135, 136, 137, 138, 139, 140, 141] (by decide +kernel) (by decide +kernel)
set_option maxRecDepth 20000 in
theorem gX4_join_X0_rootsThere : GoodIn wsX4_join (wsV RX4 109 RX0 yX0_rootsThere wsX0_rootsThere) := goodIn_app (goodIn_of _ (by decide +kernel)) ggX4_join_X0_rootsThere
theorem dX4_join_0 : decode cX4_join 0 = .ok (.iload_n 1, 1) := by decide +kernel
theorem dX4_join_1 : decode cX4_join 1 = .ok (.iload_n 2, 1) := by decide +kernel
theorem dX4_join_2 : decode cX4_join 2 = .ok (.if_icmp .eq 25, 3) := by decide +kernel
theorem dX4_join_5 : decode cX4_join 5 = .ok (.aload_n 0, 1) := by decide +kernel
theorem dX4_join_6 : decode cX4_join 6 = .ok (.getfield 18, 3) := by decide +kernel
theorem dX4_join_9 : decode cX4_join 9 = .ok (.iload_n 1, 1) := by decide +kernel
theorem dX4_join_10 : decode cX4_join 10 = .ok (.invokevirtual 137, 3) := by decide +kernel
theorem dX4_join_13 : decode cX4_join 13 = .ok (.ifCond .eq 14, 3) := by decide +kernel
theorem dX4_join_16 : decode cX4_join 16 = .ok (.aload_n 0, 1) := by decide +kernel
theorem dX4_join_17 : decode cX4_join 17 = .ok (.getfield 18, 3) := by decide +kernel
theorem dX4_join_20 : decode cX4_join 20 = .ok (.iload_n 2, 1) := by decide +kernel
theorem dX4_join_21 : decode cX4_join 21 = .ok (.invokevirtual 137, 3) := by decide +kernel
theorem dX4_join_24 : decode cX4_join 24 = .ok (.ifCond .ne 5, 3) := by decide +kernel
theorem dX4_join_27 : decode cX4_join 27 = .ok (.iconst (-1), 1) := by decide +kernel
theorem dX4_join_28 : decode cX4_join 28 = .ok (.ireturn, 1) := by decide +kernel
theorem dX4_join_29 : decode cX4_join 29 = .ok (.aload_n 0, 1) := by decide +kernel
theorem dX4_join_30 : decode cX4_join 30 = .ok (.invokevirtual 188, 3) := by decide +kernel
theorem dX4_join_33 : decode cX4_join 33 = .ok (.aload_n 0, 1) := by decide +kernel
theorem dX4_join_34 : decode cX4_join 34 = .ok (.getfield 18, 3) := by decide +kernel
theorem dX4_join_37 : decode cX4_join 37 = .ok (.iload_n 1, 1) := by decide +kernel
theorem dX4_join_38 : decode cX4_join 38 = .ok (.iload_n 2, 1) := by decide +kernel
theorem dX4_join_39 : decode cX4_join 39 = .ok (.invokevirtual 238, 3) := by decide +kernel
theorem dX4_join_42 : decode cX4_join 42 = .ok (.aload_n 0, 1) := by decide +kernel
theorem dX4_join_43 : decode cX4_join 43 = .ok (.getfield 18, 3) := by decide +kernel
theorem dX4_join_46 : decode cX4_join 46 = .ok (.invokevirtual 109, 3) := by decide +kernel
theorem dX4_join_49 : decode cX4_join 49 = .ok (.ireturn, 1) := by decide +kernel
set_option maxRecDepth 20000 in
theorem ggX4_undo_X0_become : GoodIn wsX4_undo wsX0_become := goodIn_r _ [9, 10, 11, 12, 13, 14, 15, 16, 17, 18, 19, 20, 21, 22, 23, 24, 25, 26, 27, 28, 29, 30, 31, 32, 33, 34, 47, 48, 49, 50, 51, 52, 53, 54, 55, 56, 57, 58, 59, 60, 61, 62, 63] (by decide +kernel) (by decide +kernel)
set_option maxRecDepth 20000 in
theorem gX4_undo_X0_become : GoodIn wsX4_undo (wsV RX4 73 RX0 yX0_become wsX0_become) := goodIn_app (goodIn_of _ (by decide +kernel)) ggX4_undo_X0_become
theorem dX4_undo_0 : decode cX4_undo 0 = .ok (.aload_n 0, 1) := by decide +kernel
theorem dX4_undo_1 : decode cX4_undo 1 = .ok (.getfield 60, 3) := by decide +kernel
theorem dX4_undo_4 : decode cX4_undo 4 = .ok (.ifCond .ne 5, 3) := by decide +kernel
theorem dX4_undo_7 : decode cX4_undo 7 = .ok (.iconst (-1), 1) := by decide +kernel
theorem dX4_undo_8 : decode cX4_undo 8 = .ok (.ireturn, 1) := by decide +kernel
theorem dX4_undo_9 : decode cX4_undo 9 = .ok (.aload_n 0, 1) := by decide +kernel
theorem dX4_undo_10 : decode cX4_undo 10 = .ok (.dup, 1) := by decide +kernel
theorem dX4_undo_11 : decode cX4_undo 11 = .ok (.getfield 60, 3) := by decide +kernel
theorem dX4_undo_14 : decode cX4_undo 14 = .ok (.iconst 1, 1) := by decide +kernel
theorem dX4_undo_15 : decode cX4_undo 15 = .ok (.isub, 1) := by decide +kernel
theorem dX4_undo_16 : decode cX4_undo 16 = .ok (.putfield 60, 3) := by decide +kernel
theorem dX4_undo_19 : decode cX4_undo 19 = .ok (.aload_n 0, 1) := by decide +kernel
theorem dX4_undo_20 : decode cX4_undo 20 = .ok (.getfield 50, 3) := by decide +kernel
theorem dX4_undo_23 : decode cX4_undo 23 = .ok (.aload_n 0, 1) := by decide +kernel
theorem dX4_undo_24 : decode cX4_undo 24 = .ok (.getfield 57, 3) := by decide +kernel
theorem dX4_undo_27 : decode cX4_undo 27 = .ok (.aload_n 0, 1) := by decide +kernel
theorem dX4_undo_28 : decode cX4_undo 28 = .ok (.getfield 60, 3) := by decide +kernel
theorem dX4_undo_31 : decode cX4_undo 31 = .ok (.iadd, 1) := by decide +kernel
theorem dX4_undo_32 : decode cX4_undo 32 = .ok (.bipush 12, 2) := by decide +kernel
theorem dX4_undo_34 : decode cX4_undo 34 = .ok (.irem, 1) := by decide +kernel
theorem dX4_undo_35 : decode cX4_undo 35 = .ok (.aaload, 1) := by decide +kernel
theorem dX4_undo_36 : decode cX4_undo 36 = .ok (.astore_n 1, 1) := by decide +kernel
theorem dX4_undo_37 : decode cX4_undo 37 = .ok (.aload_n 1, 1) := by decide +kernel
theorem dX4_undo_38 : decode cX4_undo 38 = .ok (.ifnull 11, 3) := by decide +kernel
theorem dX4_undo_41 : decode cX4_undo 41 = .ok (.aload_n 0, 1) := by decide +kernel
theorem dX4_undo_42 : decode cX4_undo 42 = .ok (.getfield 18, 3) := by decide +kernel
theorem dX4_undo_45 : decode cX4_undo 45 = .ok (.aload_n 1, 1) := by decide +kernel
theorem dX4_undo_46 : decode cX4_undo 46 = .ok (.invokevirtual 73, 3) := by decide +kernel
theorem dX4_undo_49 : decode cX4_undo 49 = .ok (.aload_n 0, 1) := by decide +kernel
theorem dX4_undo_50 : decode cX4_undo 50 = .ok (.getfield 60, 3) := by decide +kernel
theorem dX4_undo_53 : decode cX4_undo 53 = .ok (.ireturn, 1) := by decide +kernel
set_option maxRecDepth 20000 in
theorem ggX4_image_X4_layBack : GoodIn wsX4_image wsX4_layBack := goodIn_r _ [11, 5, 12, 13, 14, 10, 15, 6, 1, 16, 17, 18, 4, 19, 20, 21, 22, 23, 24, 25, 26, 27, 28, 29, 30, 31, 32, 33, 34, 35, 36, 37, 38, 39, 40, 41, 42, 43, 44, 45, 46, 47, 48, 49, 50, 88, 89, 90, 91, 92, 93, 94, 95, 96, 97, 98, 99, 100, 101, 102, 103, 104, 105, 106, 107, 108, 109, 110, 111, 112, 113, 114, 115, 116] (by decide +kernel) (by decide +kernel)
set_option maxRecDepth 20000 in
theorem gX4_image_X4_layBack : GoodIn wsX4_image (wsV RX4 241 RX4 yX4_layBack wsX4_layBack) := goodIn_app (goodIn_of _ (by decide +kernel)) ggX4_image_X4_layBack
set_option maxRecDepth 20000 in
theorem ggX4_image_X0_init : GoodIn wsX4_image wsX0_init := goodIn_r _ [53, 54, 55, 56, 57, 20, 26, 27, 58, 59, 40, 28, 60, 61, 62, 63, 64, 25, 65, 66, 67, 68, 42, 44, 69, 70, 71, 4, 72, 73, 74, 75, 29, 30, 31, 32, 33, 34, 35, 36, 76, 77, 78, 79, 80, 81, 82, 83, 84, 85, 86, 87, 100, 101, 102, 103, 104, 105, 106, 107, 108, 109, 110, 111, 112, 113, 114, 115, 116] (by decide +kernel) (by decide +kernel)
set_option maxRecDepth 20000 in
theorem gX4_image_X0_init : GoodIn wsX4_image (wsX0_init) := ggX4_image_X0_init
set_option maxRecDepth 20000 in
theorem ggX4_image_X0_become : GoodIn wsX4_image wsX0_become := goodIn_r _ [19, 20, 21, 22, 23, 24, 25, 26, 27, 28, 29, 30, 31, 32, 33, 34, 35, 36, 37, 38, 39, 40, 41, 42, 43, 44, 100, 101, 102, 103, 104, 105, 106, 107, 108, 109, 110, 111, 112, 113, 114, 115, 116] (by decide +kernel) (by decide +kernel)
set_option maxRecDepth 20000 in
theorem gX4_image_X0_become : GoodIn wsX4_image (wsV RX4 73 RX0 yX0_become wsX0_become) := goodIn_app (goodIn_of _ (by decide +kernel)) ggX4_image_X0_become
theorem dX4_image_0 : decode cX4_image 0 = .ok (.iload_n 1, 1) := by decide +kernel
theorem dX4_image_1 : decode cX4_image 1 = .ok (.ifCond .lt 8, 3) := by decide +kernel
theorem dX4_image_4 : decode cX4_image 4 = .ok (.iload_n 1, 1) := by decide +kernel
theorem dX4_image_5 : decode cX4_image 5 = .ok (.iconst 2, 1) := by decide +kernel
theorem dX4_image_6 : decode cX4_image 6 = .ok (.if_icmp .lt 5, 3) := by decide +kernel
theorem dX4_image_9 : decode cX4_image 9 = .ok (.iconst 0, 1) := by decide +kernel
theorem dX4_image_10 : decode cX4_image 10 = .ok (.ireturn, 1) := by decide +kernel
theorem dX4_image_11 : decode cX4_image 11 = .ok (.iload_n 2, 1) := by decide +kernel
theorem dX4_image_12 : decode cX4_image 12 = .ok (.ifCond .eq 9, 3) := by decide +kernel
theorem dX4_image_15 : decode cX4_image 15 = .ok (.aload_n 0, 1) := by decide +kernel
theorem dX4_image_16 : decode cX4_image 16 = .ok (.iload_n 1, 1) := by decide +kernel
theorem dX4_image_17 : decode cX4_image 17 = .ok (.invokevirtual 241, 3) := by decide +kernel
theorem dX4_image_20 : decode cX4_image 20 = .ok (.ireturn, 1) := by decide +kernel
theorem dX4_image_21 : decode cX4_image 21 = .ok (.aload_n 0, 1) := by decide +kernel
theorem dX4_image_22 : decode cX4_image 22 = .ok (.getfield 42, 3) := by decide +kernel
theorem dX4_image_25 : decode cX4_image 25 = .ok (.iload_n 1, 1) := by decide +kernel
theorem dX4_image_26 : decode cX4_image 26 = .ok (.aaload, 1) := by decide +kernel
theorem dX4_image_27 : decode cX4_image 27 = .ok (.ifnonnull 17, 3) := by decide +kernel
theorem dX4_image_30 : decode cX4_image 30 = .ok (.aload_n 0, 1) := by decide +kernel
theorem dX4_image_31 : decode cX4_image 31 = .ok (.getfield 42, 3) := by decide +kernel
theorem dX4_image_34 : decode cX4_image 34 = .ok (.iload_n 1, 1) := by decide +kernel
theorem dX4_image_35 : decode cX4_image 35 = .ok (.new 13, 3) := by decide +kernel
theorem dX4_image_38 : decode cX4_image 38 = .ok (.dup, 1) := by decide +kernel
theorem dX4_image_39 : decode cX4_image 39 = .ok (.iconst 0, 1) := by decide +kernel
theorem dX4_image_40 : decode cX4_image 40 = .ok (.invokespecial 15, 3) := by decide +kernel
theorem dX4_image_43 : decode cX4_image 43 = .ok (.aastore, 1) := by decide +kernel
theorem dX4_image_44 : decode cX4_image 44 = .ok (.aload_n 0, 1) := by decide +kernel
theorem dX4_image_45 : decode cX4_image 45 = .ok (.getfield 42, 3) := by decide +kernel
theorem dX4_image_48 : decode cX4_image 48 = .ok (.iload_n 1, 1) := by decide +kernel
theorem dX4_image_49 : decode cX4_image 49 = .ok (.aaload, 1) := by decide +kernel
theorem dX4_image_50 : decode cX4_image 50 = .ok (.aload_n 0, 1) := by decide +kernel
theorem dX4_image_51 : decode cX4_image 51 = .ok (.getfield 18, 3) := by decide +kernel
theorem dX4_image_54 : decode cX4_image 54 = .ok (.invokevirtual 73, 3) := by decide +kernel
theorem dX4_image_57 : decode cX4_image 57 = .ok (.aload_n 0, 1) := by decide +kernel
theorem dX4_image_58 : decode cX4_image 58 = .ok (.getfield 46, 3) := by decide +kernel
theorem dX4_image_61 : decode cX4_image 61 = .ok (.iload_n 1, 1) := by decide +kernel
theorem dX4_image_62 : decode cX4_image 62 = .ok (.iconst 1, 1) := by decide +kernel
theorem dX4_image_63 : decode cX4_image 63 = .ok (.bastore, 1) := by decide +kernel
theorem dX4_image_64 : decode cX4_image 64 = .ok (.iconst 1, 1) := by decide +kernel
theorem dX4_image_65 : decode cX4_image 65 = .ok (.ireturn, 1) := by decide +kernel
theorem dX4_feedBytes_0 : decode cX4_feedBytes 0 = .ok (.bipush 24, 2) := by decide +kernel
theorem dX4_feedBytes_2 : decode cX4_feedBytes 2 = .ok (.istore_n 2, 1) := by decide +kernel
theorem dX4_feedBytes_3 : decode cX4_feedBytes 3 = .ok (.iload_n 2, 1) := by decide +kernel
theorem dX4_feedBytes_4 : decode cX4_feedBytes 4 = .ok (.ifCond .lt 45, 3) := by decide +kernel
theorem dX4_feedBytes_7 : decode cX4_feedBytes 7 = .ok (.aload_n 0, 1) := by decide +kernel
theorem dX4_feedBytes_8 : decode cX4_feedBytes 8 = .ok (.getfield 53, 3) := by decide +kernel
theorem dX4_feedBytes_11 : decode cX4_feedBytes 11 = .ok (.sipush 500, 3) := by decide +kernel
theorem dX4_feedBytes_14 : decode cX4_feedBytes 14 = .ok (.if_icmp .ge 29, 3) := by decide +kernel
theorem dX4_feedBytes_17 : decode cX4_feedBytes 17 = .ok (.aload_n 0, 1) := by decide +kernel
theorem dX4_feedBytes_18 : decode cX4_feedBytes 18 = .ok (.getfield 9, 3) := by decide +kernel
theorem dX4_feedBytes_21 : decode cX4_feedBytes 21 = .ok (.aload_n 0, 1) := by decide +kernel
theorem dX4_feedBytes_22 : decode cX4_feedBytes 22 = .ok (.getfield 53, 3) := by decide +kernel
theorem dX4_feedBytes_25 : decode cX4_feedBytes 25 = .ok (.iload_n 1, 1) := by decide +kernel
theorem dX4_feedBytes_26 : decode cX4_feedBytes 26 = .ok (.iload_n 2, 1) := by decide +kernel
theorem dX4_feedBytes_27 : decode cX4_feedBytes 27 = .ok (.iushr, 1) := by decide +kernel
theorem dX4_feedBytes_28 : decode cX4_feedBytes 28 = .ok (.sipush 255, 3) := by decide +kernel
theorem dX4_feedBytes_31 : decode cX4_feedBytes 31 = .ok (.iand, 1) := by decide +kernel
theorem dX4_feedBytes_32 : decode cX4_feedBytes 32 = .ok (.iastore, 1) := by decide +kernel
theorem dX4_feedBytes_33 : decode cX4_feedBytes 33 = .ok (.aload_n 0, 1) := by decide +kernel
theorem dX4_feedBytes_34 : decode cX4_feedBytes 34 = .ok (.dup, 1) := by decide +kernel
theorem dX4_feedBytes_35 : decode cX4_feedBytes 35 = .ok (.getfield 53, 3) := by decide +kernel
theorem dX4_feedBytes_38 : decode cX4_feedBytes 38 = .ok (.iconst 1, 1) := by decide +kernel
theorem dX4_feedBytes_39 : decode cX4_feedBytes 39 = .ok (.iadd, 1) := by decide +kernel
theorem dX4_feedBytes_40 : decode cX4_feedBytes 40 = .ok (.putfield 53, 3) := by decide +kernel
theorem dX4_feedBytes_43 : decode cX4_feedBytes 43 = .ok (.iinc 2 (-8), 3) := by decide +kernel
theorem dX4_feedBytes_46 : decode cX4_feedBytes 46 = .ok (.goto (-43), 3) := by decide +kernel
theorem dX4_feedBytes_49 : decode cX4_feedBytes 49 = .ok (.return_, 1) := by decide +kernel
theorem dX4_isOrder_0 : decode cX4_isOrder 0 = .ok (.iload_n 0, 1) := by decide +kernel
theorem dX4_isOrder_1 : decode cX4_isOrder 1 = .ok (.ifCond .lt 12, 3) := by decide +kernel
theorem dX4_isOrder_4 : decode cX4_isOrder 4 = .ok (.iload_n 0, 1) := by decide +kernel
theorem dX4_isOrder_5 : decode cX4_isOrder 5 = .ok (.iconst 3, 1) := by decide +kernel
theorem dX4_isOrder_6 : decode cX4_isOrder 6 = .ok (.if_icmp .ge 7, 3) := by decide +kernel
theorem dX4_isOrder_9 : decode cX4_isOrder 9 = .ok (.iconst 1, 1) := by decide +kernel
theorem dX4_isOrder_10 : decode cX4_isOrder 10 = .ok (.goto 4, 3) := by decide +kernel
theorem dX4_isOrder_13 : decode cX4_isOrder 13 = .ok (.iconst 0, 1) := by decide +kernel
theorem dX4_isOrder_14 : decode cX4_isOrder 14 = .ok (.ireturn, 1) := by decide +kernel
theorem dX4_isStepLimit_0 : decode cX4_isStepLimit 0 = .ok (.iload_n 0, 1) := by decide +kernel
theorem dX4_isStepLimit_1 : decode cX4_isStepLimit 1 = .ok (.ifCond .lt 14, 3) := by decide +kernel
theorem dX4_isStepLimit_4 : decode cX4_isStepLimit 4 = .ok (.iload_n 0, 1) := by decide +kernel
theorem dX4_isStepLimit_5 : decode cX4_isStepLimit 5 = .ok (.sipush 9999, 3) := by decide +kernel
theorem dX4_isStepLimit_8 : decode cX4_isStepLimit 8 = .ok (.if_icmp .gt 7, 3) := by decide +kernel
theorem dX4_isStepLimit_11 : decode cX4_isStepLimit 11 = .ok (.iconst 1, 1) := by decide +kernel
theorem dX4_isStepLimit_12 : decode cX4_isStepLimit 12 = .ok (.goto 4, 3) := by decide +kernel
theorem dX4_isStepLimit_15 : decode cX4_isStepLimit 15 = .ok (.iconst 0, 1) := by decide +kernel
theorem dX4_isStepLimit_16 : decode cX4_isStepLimit 16 = .ok (.ireturn, 1) := by decide +kernel
set_option maxRecDepth 20000 in
theorem ggX4_looksAtEnd_X0_become : GoodIn wsX4_looksAtEnd wsX0_become := goodIn_r _ [7, 8, 9, 10, 11, 12, 13, 14, 15, 16, 17, 18, 19, 20, 21, 22, 23, 24, 25, 26, 27, 28, 29, 30, 31, 32, 208, 209, 210, 211, 212, 213, 214, 215, 216, 217, 218, 219, 220, 221, 222, 223, 224] (by decide +kernel) (by decide +kernel)
set_option maxRecDepth 20000 in
theorem gX4_looksAtEnd_X0_become : GoodIn wsX4_looksAtEnd (wsV RX4 73 RX0 yX0_become wsX0_become) := goodIn_app (goodIn_of _ (by decide +kernel)) ggX4_looksAtEnd_X0_become
set_option maxRecDepth 20000 in
theorem ggX4_looksAtEnd_X0_goOn : GoodIn wsX4_looksAtEnd wsX0_goOn := goodIn_r _ [36, 18, 37, 38, 16, 39, 40, 41, 42, 43, 44, 45, 6, 46, 47, 48, 49, 50, 17, 51, 52, 53, 28, 54, 55, 56, 57, 58, 30, 32, 59, 60, 61, 62, 63, 64, 65, 66, 67, 68, 69, 70, 71, 72, 73, 74, 75, 76, 15, 77, 78, 79, 80, 81, 82, 83, 84, 13, 85, 86, 87, 88, 89, 90, 91, 92, 93, 94, 95, 8, 96, 97, 98, 99, 100, 101, 102, 103, 104, 105, 106, 107, 108, 109, 110, 111, 112, 113, 114, 115, 116, 117, 118, 119, 120, 121, 122, 123, 124, 125, 126, 127, 21, 14, 20, 128, 129, 130, 131, 24, 132, 133, 134, 135, 136, 137, 138, 139, 22, 19, 140, 141, 142, 143, 144, 145, 146, 147, 208, 209, 210, 211, 212, 213, 214, 215, 216, 217, 218, 219, 220, 221, 222, 223, 224] (by decide +kernel) (by decide +kernel)
set_option maxRecDepth 20000 in
theorem gX4_looksAtEnd_X0_goOn : GoodIn wsX4_looksAtEnd (wsV RX4 191 RX0 yX0_goOn wsX0_goOn) := goodIn_app (goodIn_of _ (by decide +kernel)) ggX4_looksAtEnd_X0_goOn
set_option maxRecDepth 20000 in
theorem ggX4_looksAtEnd_X0_readyPairs : GoodIn wsX4_looksAtEnd wsX0_readyPairs := goodIn_r _ [46, 16, 47, 48, 49, 6, 50, 18, 17, 51, 52, 53, 28, 54, 55, 56, 57, 58, 30, 32, 59, 60, 61, 62, 63, 64, 65, 208, 209, 210, 211, 212, 213, 214, 215, 216, 217, 218, 219, 220, 221, 222, 223, 224] (by decide +kernel) (by decide +kernel)
set_option maxRecDepth 20000 in
theorem gX4_looksAtEnd_X0_readyPairs : GoodIn wsX4_looksAtEnd (wsV RX4 105 RX0 yX0_readyPairs wsX0_readyPairs) := goodIn_app (goodIn_of _ (by decide +kernel)) ggX4_looksAtEnd_X0_readyPairs
set_option maxRecDepth 20000 in
theorem ggX4_looksAtEnd_X2_look : GoodIn wsX4_looksAtEnd wsX2_look := goodIn_r _ [153, 154, 155, 156, 157, 158, 159, 160, 161, 162, 163, 6, 164, 13, 165, 166, 167, 152, 168, 169, 170, 171, 172, 173, 174, 175, 176, 177, 178, 179, 180, 82, 83, 84, 181, 182, 183, 184, 185, 93, 94, 95, 8, 186, 187, 188, 189, 190, 191, 192, 193, 194, 195, 225, 226, 227, 228, 229, 230, 231, 232, 208, 209, 210, 211, 212, 213, 214, 215, 216, 217, 218, 219, 220, 221, 222] (by decide +kernel) (by decide +kernel)
set_option maxRecDepth 20000 in
theorem gX4_looksAtEnd_X2_look : GoodIn wsX4_looksAtEnd (wsV RX4 170 RX2 yX2_look wsX2_look) := goodIn_app (goodIn_of _ (by decide +kernel)) ggX4_looksAtEnd_X2_look
theorem dX4_looksAtEnd_0 : decode cX4_looksAtEnd 0 = .ok (.aload_n 0, 1) := by decide +kernel
theorem dX4_looksAtEnd_1 : decode cX4_looksAtEnd 1 = .ok (.getfield 22, 3) := by decide +kernel
theorem dX4_looksAtEnd_4 : decode cX4_looksAtEnd 4 = .ok (.aload_n 0, 1) := by decide +kernel
theorem dX4_looksAtEnd_5 : decode cX4_looksAtEnd 5 = .ok (.getfield 18, 3) := by decide +kernel
theorem dX4_looksAtEnd_8 : decode cX4_looksAtEnd 8 = .ok (.invokevirtual 73, 3) := by decide +kernel
theorem dX4_looksAtEnd_11 : decode cX4_looksAtEnd 11 = .ok (.aload_n 0, 1) := by decide +kernel
theorem dX4_looksAtEnd_12 : decode cX4_looksAtEnd 12 = .ok (.getfield 22, 3) := by decide +kernel
theorem dX4_looksAtEnd_15 : decode cX4_looksAtEnd 15 = .ok (.iload_n 1, 1) := by decide +kernel
theorem dX4_looksAtEnd_16 : decode cX4_looksAtEnd 16 = .ok (.iload_n 2, 1) := by decide +kernel
theorem dX4_looksAtEnd_17 : decode cX4_looksAtEnd 17 = .ok (.iload_n 3, 1) := by decide +kernel
theorem dX4_looksAtEnd_18 : decode cX4_looksAtEnd 18 = .ok (.invokevirtual 191, 3) := by decide +kernel
theorem dX4_looksAtEnd_21 : decode cX4_looksAtEnd 21 = .ok (.pop, 1) := by decide +kernel
theorem dX4_looksAtEnd_22 : decode cX4_looksAtEnd 22 = .ok (.aload_n 0, 1) := by decide +kernel
theorem dX4_looksAtEnd_23 : decode cX4_looksAtEnd 23 = .ok (.getfield 22, 3) := by decide +kernel
theorem dX4_looksAtEnd_26 : decode cX4_looksAtEnd 26 = .ok (.invokevirtual 105, 3) := by decide +kernel
theorem dX4_looksAtEnd_29 : decode cX4_looksAtEnd 29 = .ok (.ifCond .le 5, 3) := by decide +kernel
theorem dX4_looksAtEnd_32 : decode cX4_looksAtEnd 32 = .ok (.iconst 0, 1) := by decide +kernel
theorem dX4_looksAtEnd_33 : decode cX4_looksAtEnd 33 = .ok (.ireturn, 1) := by decide +kernel
theorem dX4_looksAtEnd_34 : decode cX4_looksAtEnd 34 = .ok (.aload 4, 2) := by decide +kernel
theorem dX4_looksAtEnd_36 : decode cX4_looksAtEnd 36 = .ok (.aload_n 0, 1) := by decide +kernel
theorem dX4_looksAtEnd_37 : decode cX4_looksAtEnd 37 = .ok (.getfield 22, 3) := by decide +kernel
theorem dX4_looksAtEnd_40 : decode cX4_looksAtEnd 40 = .ok (.invokevirtual 170, 3) := by decide +kernel
theorem dX4_looksAtEnd_43 : decode cX4_looksAtEnd 43 = .ok (.iconst 1, 1) := by decide +kernel
theorem dX4_looksAtEnd_44 : decode cX4_looksAtEnd 44 = .ok (.ireturn, 1) := by decide +kernel
set_option maxRecDepth 20000 in
theorem ggX4_branchRoot_X0_hasRoot : GoodIn wsX4_branchRoot wsX0_hasRoot := goodIn_r _ [6, 7, 139, 140, 141, 142, 143, 144, 145, 146, 147, 148, 149, 150, 151, 152, 153] (by decide +kernel) (by decide +kernel)
set_option maxRecDepth 20000 in
theorem gX4_branchRoot_X0_hasRoot : GoodIn wsX4_branchRoot (wsV RX4 137 RX0 yX0_hasRoot wsX0_hasRoot) := goodIn_app (goodIn_of _ (by decide +kernel)) ggX4_branchRoot_X0_hasRoot
set_option maxRecDepth 20000 in
theorem ggX4_branchRoot_X0_hasRoom : GoodIn wsX4_branchRoot wsX0_hasRoom := goodIn_r _ [11, 12, 13, 139, 140, 141, 142, 143, 144, 145, 146, 147, 148, 149, 150, 151, 152, 153] (by decide +kernel) (by decide +kernel)
set_option maxRecDepth 20000 in
theorem gX4_branchRoot_X0_hasRoom : GoodIn wsX4_branchRoot (wsV RX4 222 RX0 yX0_hasRoom wsX0_hasRoom) := goodIn_app (goodIn_of _ (by decide +kernel)) ggX4_branchRoot_X0_hasRoom
set_option maxRecDepth 20000 in
theorem ggX4_branchRoot_X4_remember : GoodIn wsX4_branchRoot wsX4_remember := goodIn_r _ [18, 19, 20, 21, 22, 23, 5, 1, 24, 25, 26, 27, 28, 29, 30, 31, 32, 33, 34, 35, 36, 37, 38, 39, 40, 41, 42, 7, 43, 44, 45, 46, 47, 48, 49, 50, 51, 52, 53, 54, 55, 13, 12, 56, 57, 58, 59, 60, 61, 62, 63, 64, 65, 66, 67, 68, 69, 70, 71, 72, 73, 74, 75, 76, 77, 78, 79, 80, 81, 82, 83, 84, 85, 86, 127, 128, 129, 130, 131, 132, 133, 134, 135, 136, 137, 138, 139, 140, 141, 142, 143, 144, 145, 146, 147, 148, 149, 150, 151, 152, 153, 154, 155] (by decide +kernel) (by decide +kernel)
set_option maxRecDepth 20000 in
theorem gX4_branchRoot_X4_remember : GoodIn wsX4_branchRoot (wsV RX4 188 RX4 yX4_remember wsX4_remember) := goodIn_app (goodIn_of _ (by decide +kernel)) ggX4_branchRoot_X4_remember
set_option maxRecDepth 20000 in
theorem ggX4_branchRoot_X0_make : GoodIn wsX4_branchRoot wsX0_make := goodIn_r _ [90, 58, 59, 31, 12, 56, 91, 92, 93, 5, 94, 13, 32, 139, 140, 141, 142, 143, 144, 145, 146, 147, 148, 149, 150, 151, 152, 153] (by decide +kernel) (by decide +kernel)
set_option maxRecDepth 20000 in
theorem gX4_branchRoot_X0_make : GoodIn wsX4_branchRoot (wsV RX4 235 RX0 yX0_make wsX0_make) := goodIn_app (goodIn_of _ (by decide +kernel)) ggX4_branchRoot_X0_make
set_option maxRecDepth 20000 in
theorem ggX4_branchRoot_X0_endRoot : GoodIn wsX4_branchRoot wsX0_endRoot := goodIn_r _ [98, 7, 99, 3, 4, 5, 6, 100, 101, 102, 103, 104, 105, 106, 107, 108, 109, 110, 111, 37, 53, 54, 41, 55, 31, 112, 113, 114, 115, 116, 117, 118, 119, 120, 121, 36, 122, 48, 47, 139, 140, 141, 142, 143, 144, 145, 146, 147, 148, 149, 150, 151, 152, 153, 154, 155] (by decide +kernel) (by decide +kernel)
set_option maxRecDepth 20000 in
theorem gX4_branchRoot_X0_endRoot : GoodIn wsX4_branchRoot (wsV RX4 228 RX0 yX0_endRoot wsX0_endRoot) := goodIn_app (goodIn_of _ (by decide +kernel)) ggX4_branchRoot_X0_endRoot
set_option maxRecDepth 20000 in
theorem ggX4_branchRoot_X0_makeRoot : GoodIn wsX4_branchRoot wsX0_makeRoot := goodIn_r _ [126, 60, 108, 109, 110, 5, 111, 37, 53, 54, 41, 55, 31, 112, 113, 114, 115, 7, 116, 117, 118, 119, 120, 121, 36, 122, 48, 47, 139, 140, 141, 142, 143, 144, 145, 146, 147, 148, 149, 150, 151, 152, 153, 154, 155] (by decide +kernel) (by decide +kernel)
set_option maxRecDepth 20000 in
theorem gX4_branchRoot_X0_makeRoot : GoodIn wsX4_branchRoot (wsV RX4 244 RX0 yX0_makeRoot wsX0_makeRoot) := goodIn_app (goodIn_of _ (by decide +kernel)) ggX4_branchRoot_X0_makeRoot
theorem dX4_branchRoot_0 : decode cX4_branchRoot 0 = .ok (.aload_n 0, 1) := by decide +kernel
theorem dX4_branchRoot_1 : decode cX4_branchRoot 1 = .ok (.getfield 18, 3) := by decide +kernel
theorem dX4_branchRoot_4 : decode cX4_branchRoot 4 = .ok (.iload_n 1, 1) := by decide +kernel
theorem dX4_branchRoot_5 : decode cX4_branchRoot 5 = .ok (.invokevirtual 137, 3) := by decide +kernel
theorem dX4_branchRoot_8 : decode cX4_branchRoot 8 = .ok (.ifCond .eq 28, 3) := by decide +kernel
theorem dX4_branchRoot_11 : decode cX4_branchRoot 11 = .ok (.aload_n 0, 1) := by decide +kernel
theorem dX4_branchRoot_12 : decode cX4_branchRoot 12 = .ok (.getfield 18, 3) := by decide +kernel
theorem dX4_branchRoot_15 : decode cX4_branchRoot 15 = .ok (.iconst 1, 1) := by decide +kernel
theorem dX4_branchRoot_16 : decode cX4_branchRoot 16 = .ok (.invokevirtual 222, 3) := by decide +kernel
theorem dX4_branchRoot_19 : decode cX4_branchRoot 19 = .ok (.ifCond .eq 17, 3) := by decide +kernel
theorem dX4_branchRoot_22 : decode cX4_branchRoot 22 = .ok (.aload_n 0, 1) := by decide +kernel
theorem dX4_branchRoot_23 : decode cX4_branchRoot 23 = .ok (.getfield 18, 3) := by decide +kernel
theorem dX4_branchRoot_26 : decode cX4_branchRoot 26 = .ok (.getfield 112, 3) := by decide +kernel
theorem dX4_branchRoot_29 : decode cX4_branchRoot 29 = .ok (.iconst 2, 1) := by decide +kernel
theorem dX4_branchRoot_30 : decode cX4_branchRoot 30 = .ok (.iadd, 1) := by decide +kernel
theorem dX4_branchRoot_31 : decode cX4_branchRoot 31 = .ok (.bipush 16, 2) := by decide +kernel
theorem dX4_branchRoot_33 : decode cX4_branchRoot 33 = .ok (.if_icmp .le 5, 3) := by decide +kernel
theorem dX4_branchRoot_36 : decode cX4_branchRoot 36 = .ok (.iconst (-1), 1) := by decide +kernel
theorem dX4_branchRoot_37 : decode cX4_branchRoot 37 = .ok (.ireturn, 1) := by decide +kernel
theorem dX4_branchRoot_38 : decode cX4_branchRoot 38 = .ok (.aload_n 0, 1) := by decide +kernel
theorem dX4_branchRoot_39 : decode cX4_branchRoot 39 = .ok (.invokevirtual 188, 3) := by decide +kernel
theorem dX4_branchRoot_42 : decode cX4_branchRoot 42 = .ok (.iconst 3, 1) := by decide +kernel
theorem dX4_branchRoot_43 : decode cX4_branchRoot 43 = .ok (.aload_n 0, 1) := by decide +kernel
theorem dX4_branchRoot_44 : decode cX4_branchRoot 44 = .ok (.getfield 18, 3) := by decide +kernel
theorem dX4_branchRoot_47 : decode cX4_branchRoot 47 = .ok (.iload_n 2, 1) := by decide +kernel
theorem dX4_branchRoot_48 : decode cX4_branchRoot 48 = .ok (.invokevirtual 235, 3) := by decide +kernel
theorem dX4_branchRoot_51 : decode cX4_branchRoot 51 = .ok (.imul, 1) := by decide +kernel
theorem dX4_branchRoot_52 : decode cX4_branchRoot 52 = .ok (.istore_n 3, 1) := by decide +kernel
theorem dX4_branchRoot_53 : decode cX4_branchRoot 53 = .ok (.aload_n 0, 1) := by decide +kernel
theorem dX4_branchRoot_54 : decode cX4_branchRoot 54 = .ok (.getfield 18, 3) := by decide +kernel
theorem dX4_branchRoot_57 : decode cX4_branchRoot 57 = .ok (.iload_n 1, 1) := by decide +kernel
theorem dX4_branchRoot_58 : decode cX4_branchRoot 58 = .ok (.iload_n 3, 1) := by decide +kernel
theorem dX4_branchRoot_59 : decode cX4_branchRoot 59 = .ok (.invokevirtual 228, 3) := by decide +kernel
theorem dX4_branchRoot_62 : decode cX4_branchRoot 62 = .ok (.aload_n 0, 1) := by decide +kernel
theorem dX4_branchRoot_63 : decode cX4_branchRoot 63 = .ok (.getfield 18, 3) := by decide +kernel
theorem dX4_branchRoot_66 : decode cX4_branchRoot 66 = .ok (.iload_n 3, 1) := by decide +kernel
theorem dX4_branchRoot_67 : decode cX4_branchRoot 67 = .ok (.iconst 1, 1) := by decide +kernel
theorem dX4_branchRoot_68 : decode cX4_branchRoot 68 = .ok (.iadd, 1) := by decide +kernel
theorem dX4_branchRoot_69 : decode cX4_branchRoot 69 = .ok (.invokevirtual 244, 3) := by decide +kernel
theorem dX4_branchRoot_72 : decode cX4_branchRoot 72 = .ok (.istore 4, 2) := by decide +kernel
theorem dX4_branchRoot_74 : decode cX4_branchRoot 74 = .ok (.aload_n 0, 1) := by decide +kernel
theorem dX4_branchRoot_75 : decode cX4_branchRoot 75 = .ok (.getfield 18, 3) := by decide +kernel
theorem dX4_branchRoot_78 : decode cX4_branchRoot 78 = .ok (.iload_n 3, 1) := by decide +kernel
theorem dX4_branchRoot_79 : decode cX4_branchRoot 79 = .ok (.iconst 2, 1) := by decide +kernel
theorem dX4_branchRoot_80 : decode cX4_branchRoot 80 = .ok (.iadd, 1) := by decide +kernel
theorem dX4_branchRoot_81 : decode cX4_branchRoot 81 = .ok (.invokevirtual 244, 3) := by decide +kernel
theorem dX4_branchRoot_84 : decode cX4_branchRoot 84 = .ok (.pop, 1) := by decide +kernel
theorem dX4_branchRoot_85 : decode cX4_branchRoot 85 = .ok (.iload 4, 2) := by decide +kernel
theorem dX4_branchRoot_87 : decode cX4_branchRoot 87 = .ok (.ireturn, 1) := by decide +kernel
set_option maxRecDepth 20000 in
theorem ggX4_remember_X0_init : GoodIn wsX4_remember wsX0_init := goodIn_r _ [10, 11, 12, 13, 14, 15, 16, 17, 18, 19, 20, 21, 22, 23, 24, 25, 26, 27, 28, 29, 30, 31, 32, 33, 34, 35, 36, 6, 37, 38, 39, 40, 41, 42, 43, 44, 45, 46, 47, 48, 49, 50, 51, 52, 53, 54, 55, 56, 57, 58, 59, 60, 86, 87, 88, 89, 90, 91, 92, 93, 94, 95, 96, 97, 98, 99, 100, 101, 102] (by decide +kernel) (by decide +kernel)
set_option maxRecDepth 20000 in
theorem gX4_remember_X0_init : GoodIn wsX4_remember (wsX0_init) := ggX4_remember_X0_init
set_option maxRecDepth 20000 in
theorem ggX4_remember_X0_become : GoodIn wsX4_remember wsX0_become := goodIn_r _ [64, 15, 65, 66, 67, 68, 27, 16, 17, 21, 41, 42, 43, 44, 45, 46, 47, 48, 69, 70, 71, 20, 72, 32, 73, 33, 86, 87, 88, 89, 90, 91, 92, 93, 94, 95, 96, 97, 98, 99, 100, 101, 102] (by decide +kernel) (by decide +kernel)
set_option maxRecDepth 20000 in
theorem gX4_remember_X0_become : GoodIn wsX4_remember (wsV RX4 73 RX0 yX0_become wsX0_become) := goodIn_app (goodIn_of _ (by decide +kernel)) ggX4_remember_X0_become
theorem dX4_remember_0 : decode cX4_remember 0 = .ok (.aload_n 0, 1) := by decide +kernel
theorem dX4_remember_1 : decode cX4_remember 1 = .ok (.getfield 60, 3) := by decide +kernel
theorem dX4_remember_4 : decode cX4_remember 4 = .ok (.bipush 12, 2) := by decide +kernel
theorem dX4_remember_6 : decode cX4_remember 6 = .ok (.if_icmp .ne 26, 3) := by decide +kernel
theorem dX4_remember_9 : decode cX4_remember 9 = .ok (.aload_n 0, 1) := by decide +kernel
theorem dX4_remember_10 : decode cX4_remember 10 = .ok (.aload_n 0, 1) := by decide +kernel
theorem dX4_remember_11 : decode cX4_remember 11 = .ok (.getfield 57, 3) := by decide +kernel
theorem dX4_remember_14 : decode cX4_remember 14 = .ok (.iconst 1, 1) := by decide +kernel
theorem dX4_remember_15 : decode cX4_remember 15 = .ok (.iadd, 1) := by decide +kernel
theorem dX4_remember_16 : decode cX4_remember 16 = .ok (.bipush 12, 2) := by decide +kernel
theorem dX4_remember_18 : decode cX4_remember 18 = .ok (.irem, 1) := by decide +kernel
theorem dX4_remember_19 : decode cX4_remember 19 = .ok (.putfield 57, 3) := by decide +kernel
theorem dX4_remember_22 : decode cX4_remember 22 = .ok (.aload_n 0, 1) := by decide +kernel
theorem dX4_remember_23 : decode cX4_remember 23 = .ok (.dup, 1) := by decide +kernel
theorem dX4_remember_24 : decode cX4_remember 24 = .ok (.getfield 60, 3) := by decide +kernel
theorem dX4_remember_27 : decode cX4_remember 27 = .ok (.iconst 1, 1) := by decide +kernel
theorem dX4_remember_28 : decode cX4_remember 28 = .ok (.isub, 1) := by decide +kernel
theorem dX4_remember_29 : decode cX4_remember 29 = .ok (.putfield 60, 3) := by decide +kernel
theorem dX4_remember_32 : decode cX4_remember 32 = .ok (.aload_n 0, 1) := by decide +kernel
theorem dX4_remember_33 : decode cX4_remember 33 = .ok (.getfield 57, 3) := by decide +kernel
theorem dX4_remember_36 : decode cX4_remember 36 = .ok (.aload_n 0, 1) := by decide +kernel
theorem dX4_remember_37 : decode cX4_remember 37 = .ok (.getfield 60, 3) := by decide +kernel
theorem dX4_remember_40 : decode cX4_remember 40 = .ok (.iadd, 1) := by decide +kernel
theorem dX4_remember_41 : decode cX4_remember 41 = .ok (.bipush 12, 2) := by decide +kernel
theorem dX4_remember_43 : decode cX4_remember 43 = .ok (.irem, 1) := by decide +kernel
theorem dX4_remember_44 : decode cX4_remember 44 = .ok (.istore_n 1, 1) := by decide +kernel
theorem dX4_remember_45 : decode cX4_remember 45 = .ok (.aload_n 0, 1) := by decide +kernel
theorem dX4_remember_46 : decode cX4_remember 46 = .ok (.getfield 50, 3) := by decide +kernel
theorem dX4_remember_49 : decode cX4_remember 49 = .ok (.iload_n 1, 1) := by decide +kernel
theorem dX4_remember_50 : decode cX4_remember 50 = .ok (.aaload, 1) := by decide +kernel
theorem dX4_remember_51 : decode cX4_remember 51 = .ok (.ifnonnull 17, 3) := by decide +kernel
theorem dX4_remember_54 : decode cX4_remember 54 = .ok (.aload_n 0, 1) := by decide +kernel
theorem dX4_remember_55 : decode cX4_remember 55 = .ok (.getfield 50, 3) := by decide +kernel
theorem dX4_remember_58 : decode cX4_remember 58 = .ok (.iload_n 1, 1) := by decide +kernel
theorem dX4_remember_59 : decode cX4_remember 59 = .ok (.new 13, 3) := by decide +kernel
theorem dX4_remember_62 : decode cX4_remember 62 = .ok (.dup, 1) := by decide +kernel
theorem dX4_remember_63 : decode cX4_remember 63 = .ok (.iconst 0, 1) := by decide +kernel
theorem dX4_remember_64 : decode cX4_remember 64 = .ok (.invokespecial 15, 3) := by decide +kernel
theorem dX4_remember_67 : decode cX4_remember 67 = .ok (.aastore, 1) := by decide +kernel
theorem dX4_remember_68 : decode cX4_remember 68 = .ok (.aload_n 0, 1) := by decide +kernel
theorem dX4_remember_69 : decode cX4_remember 69 = .ok (.getfield 50, 3) := by decide +kernel
theorem dX4_remember_72 : decode cX4_remember 72 = .ok (.iload_n 1, 1) := by decide +kernel
theorem dX4_remember_73 : decode cX4_remember 73 = .ok (.aaload, 1) := by decide +kernel
theorem dX4_remember_74 : decode cX4_remember 74 = .ok (.aload_n 0, 1) := by decide +kernel
theorem dX4_remember_75 : decode cX4_remember 75 = .ok (.getfield 18, 3) := by decide +kernel
theorem dX4_remember_78 : decode cX4_remember 78 = .ok (.invokevirtual 73, 3) := by decide +kernel
theorem dX4_remember_81 : decode cX4_remember 81 = .ok (.aload_n 0, 1) := by decide +kernel
theorem dX4_remember_82 : decode cX4_remember 82 = .ok (.dup, 1) := by decide +kernel
theorem dX4_remember_83 : decode cX4_remember 83 = .ok (.getfield 60, 3) := by decide +kernel
theorem dX4_remember_86 : decode cX4_remember 86 = .ok (.iconst 1, 1) := by decide +kernel
theorem dX4_remember_87 : decode cX4_remember 87 = .ok (.iadd, 1) := by decide +kernel
theorem dX4_remember_88 : decode cX4_remember 88 = .ok (.putfield 60, 3) := by decide +kernel
theorem dX4_remember_91 : decode cX4_remember 91 = .ok (.return_, 1) := by decide +kernel
theorem dX4_forgetPast_0 : decode cX4_forgetPast 0 = .ok (.aload_n 0, 1) := by decide +kernel
theorem dX4_forgetPast_1 : decode cX4_forgetPast 1 = .ok (.iconst 0, 1) := by decide +kernel
theorem dX4_forgetPast_2 : decode cX4_forgetPast 2 = .ok (.putfield 57, 3) := by decide +kernel
theorem dX4_forgetPast_5 : decode cX4_forgetPast 5 = .ok (.aload_n 0, 1) := by decide +kernel
theorem dX4_forgetPast_6 : decode cX4_forgetPast 6 = .ok (.iconst 0, 1) := by decide +kernel
theorem dX4_forgetPast_7 : decode cX4_forgetPast 7 = .ok (.putfield 60, 3) := by decide +kernel
theorem dX4_forgetPast_10 : decode cX4_forgetPast 10 = .ok (.return_, 1) := by decide +kernel
theorem dX4_forgetImages_0 : decode cX4_forgetImages 0 = .ok (.iconst 0, 1) := by decide +kernel
theorem dX4_forgetImages_1 : decode cX4_forgetImages 1 = .ok (.istore_n 1, 1) := by decide +kernel
theorem dX4_forgetImages_2 : decode cX4_forgetImages 2 = .ok (.iload_n 1, 1) := by decide +kernel
theorem dX4_forgetImages_3 : decode cX4_forgetImages 3 = .ok (.iconst 2, 1) := by decide +kernel
theorem dX4_forgetImages_4 : decode cX4_forgetImages 4 = .ok (.if_icmp .ge 16, 3) := by decide +kernel
theorem dX4_forgetImages_7 : decode cX4_forgetImages 7 = .ok (.aload_n 0, 1) := by decide +kernel
theorem dX4_forgetImages_8 : decode cX4_forgetImages 8 = .ok (.getfield 46, 3) := by decide +kernel
theorem dX4_forgetImages_11 : decode cX4_forgetImages 11 = .ok (.iload_n 1, 1) := by decide +kernel
theorem dX4_forgetImages_12 : decode cX4_forgetImages 12 = .ok (.iconst 0, 1) := by decide +kernel
theorem dX4_forgetImages_13 : decode cX4_forgetImages 13 = .ok (.bastore, 1) := by decide +kernel
theorem dX4_forgetImages_14 : decode cX4_forgetImages 14 = .ok (.iinc 1 1, 3) := by decide +kernel
theorem dX4_forgetImages_17 : decode cX4_forgetImages 17 = .ok (.goto (-15), 3) := by decide +kernel
theorem dX4_forgetImages_20 : decode cX4_forgetImages 20 = .ok (.return_, 1) := by decide +kernel
theorem dX4_imagesHeld_0 : decode cX4_imagesHeld 0 = .ok (.iconst 0, 1) := by decide +kernel
theorem dX4_imagesHeld_1 : decode cX4_imagesHeld 1 = .ok (.istore_n 1, 1) := by decide +kernel
theorem dX4_imagesHeld_2 : decode cX4_imagesHeld 2 = .ok (.iconst 0, 1) := by decide +kernel
theorem dX4_imagesHeld_3 : decode cX4_imagesHeld 3 = .ok (.istore_n 2, 1) := by decide +kernel
theorem dX4_imagesHeld_4 : decode cX4_imagesHeld 4 = .ok (.iload_n 2, 1) := by decide +kernel
theorem dX4_imagesHeld_5 : decode cX4_imagesHeld 5 = .ok (.iconst 2, 1) := by decide +kernel
theorem dX4_imagesHeld_6 : decode cX4_imagesHeld 6 = .ok (.if_icmp .ge 21, 3) := by decide +kernel
theorem dX4_imagesHeld_9 : decode cX4_imagesHeld 9 = .ok (.aload_n 0, 1) := by decide +kernel
theorem dX4_imagesHeld_10 : decode cX4_imagesHeld 10 = .ok (.getfield 46, 3) := by decide +kernel
theorem dX4_imagesHeld_13 : decode cX4_imagesHeld 13 = .ok (.iload_n 2, 1) := by decide +kernel
theorem dX4_imagesHeld_14 : decode cX4_imagesHeld 14 = .ok (.baload, 1) := by decide +kernel
theorem dX4_imagesHeld_15 : decode cX4_imagesHeld 15 = .ok (.ifCond .eq 6, 3) := by decide +kernel
theorem dX4_imagesHeld_18 : decode cX4_imagesHeld 18 = .ok (.iinc 1 1, 3) := by decide +kernel
theorem dX4_imagesHeld_21 : decode cX4_imagesHeld 21 = .ok (.iinc 2 1, 3) := by decide +kernel
theorem dX4_imagesHeld_24 : decode cX4_imagesHeld 24 = .ok (.goto (-20), 3) := by decide +kernel
theorem dX4_imagesHeld_27 : decode cX4_imagesHeld 27 = .ok (.iload_n 1, 1) := by decide +kernel
theorem dX4_imagesHeld_28 : decode cX4_imagesHeld 28 = .ok (.ireturn, 1) := by decide +kernel
theorem dX4_imageAt_0 : decode cX4_imageAt 0 = .ok (.iload_n 1, 1) := by decide +kernel
theorem dX4_imageAt_1 : decode cX4_imageAt 1 = .ok (.ifCond .lt 26, 3) := by decide +kernel
theorem dX4_imageAt_4 : decode cX4_imageAt 4 = .ok (.iload_n 1, 1) := by decide +kernel
theorem dX4_imageAt_5 : decode cX4_imageAt 5 = .ok (.iconst 2, 1) := by decide +kernel
theorem dX4_imageAt_6 : decode cX4_imageAt 6 = .ok (.if_icmp .ge 21, 3) := by decide +kernel
theorem dX4_imageAt_9 : decode cX4_imageAt 9 = .ok (.aload_n 0, 1) := by decide +kernel
theorem dX4_imageAt_10 : decode cX4_imageAt 10 = .ok (.getfield 46, 3) := by decide +kernel
theorem dX4_imageAt_13 : decode cX4_imageAt 13 = .ok (.iload_n 1, 1) := by decide +kernel
theorem dX4_imageAt_14 : decode cX4_imageAt 14 = .ok (.baload, 1) := by decide +kernel
theorem dX4_imageAt_15 : decode cX4_imageAt 15 = .ok (.ifCond .eq 12, 3) := by decide +kernel
theorem dX4_imageAt_18 : decode cX4_imageAt 18 = .ok (.aload_n 0, 1) := by decide +kernel
theorem dX4_imageAt_19 : decode cX4_imageAt 19 = .ok (.getfield 42, 3) := by decide +kernel
theorem dX4_imageAt_22 : decode cX4_imageAt 22 = .ok (.iload_n 1, 1) := by decide +kernel
theorem dX4_imageAt_23 : decode cX4_imageAt 23 = .ok (.aaload, 1) := by decide +kernel
theorem dX4_imageAt_24 : decode cX4_imageAt 24 = .ok (.goto 4, 3) := by decide +kernel
theorem dX4_imageAt_27 : decode cX4_imageAt 27 = .ok (.aconst_null, 1) := by decide +kernel
theorem dX4_imageAt_28 : decode cX4_imageAt 28 = .ok (.areturn, 1) := by decide +kernel
set_option maxRecDepth 20000 in
theorem ggX4_layBack_X4_imageAt : GoodIn wsX4_layBack wsX4_imageAt := goodIn_r _ [6, 7, 8, 45, 46, 47, 48, 49, 50, 51, 52, 53, 54, 55, 56] (by decide +kernel) (by decide +kernel)
set_option maxRecDepth 20000 in
theorem gX4_layBack_X4_imageAt : GoodIn wsX4_layBack (wsV RX4 215 RX4 yX4_imageAt wsX4_imageAt) := goodIn_app (goodIn_of _ (by decide +kernel)) ggX4_layBack_X4_imageAt
set_option maxRecDepth 20000 in
theorem ggX4_layBack_X0_become : GoodIn wsX4_layBack wsX0_become := goodIn_r _ [13, 14, 15, 16, 17, 18, 19, 20, 21, 22, 23, 24, 25, 26, 27, 28, 29, 30, 31, 32, 33, 34, 35, 36, 37, 38, 57, 58, 59, 60, 61, 62, 63, 64, 65, 66, 67, 68, 69, 70, 71, 72, 73] (by decide +kernel) (by decide +kernel)
set_option maxRecDepth 20000 in
theorem gX4_layBack_X0_become : GoodIn wsX4_layBack (wsV RX4 73 RX0 yX0_become wsX0_become) := goodIn_app (goodIn_of _ (by decide +kernel)) ggX4_layBack_X0_become
set_option maxRecDepth 20000 in
theorem ggX4_layBack_X4_forgetPast : GoodIn wsX4_layBack wsX4_forgetPast := goodIn_r _ [42, 43, 44, 45, 46, 47, 48, 49, 50, 51, 52, 53, 54, 55, 56] (by decide +kernel) (by decide +kernel)
set_option maxRecDepth 20000 in
theorem gX4_layBack_X4_forgetPast : GoodIn wsX4_layBack (wsV RX4 80 RX4 yX4_forgetPast wsX4_forgetPast) := goodIn_app (goodIn_of _ (by decide +kernel)) ggX4_layBack_X4_forgetPast
theorem dX4_layBack_0 : decode cX4_layBack 0 = .ok (.aload_n 0, 1) := by decide +kernel
theorem dX4_layBack_1 : decode cX4_layBack 1 = .ok (.iload_n 1, 1) := by decide +kernel
theorem dX4_layBack_2 : decode cX4_layBack 2 = .ok (.invokevirtual 215, 3) := by decide +kernel
theorem dX4_layBack_5 : decode cX4_layBack 5 = .ok (.astore_n 2, 1) := by decide +kernel
theorem dX4_layBack_6 : decode cX4_layBack 6 = .ok (.aload_n 2, 1) := by decide +kernel
theorem dX4_layBack_7 : decode cX4_layBack 7 = .ok (.ifnonnull 5, 3) := by decide +kernel
theorem dX4_layBack_10 : decode cX4_layBack 10 = .ok (.iconst 0, 1) := by decide +kernel
theorem dX4_layBack_11 : decode cX4_layBack 11 = .ok (.ireturn, 1) := by decide +kernel
theorem dX4_layBack_12 : decode cX4_layBack 12 = .ok (.aload_n 0, 1) := by decide +kernel
theorem dX4_layBack_13 : decode cX4_layBack 13 = .ok (.getfield 18, 3) := by decide +kernel
theorem dX4_layBack_16 : decode cX4_layBack 16 = .ok (.aload_n 2, 1) := by decide +kernel
theorem dX4_layBack_17 : decode cX4_layBack 17 = .ok (.invokevirtual 73, 3) := by decide +kernel
theorem dX4_layBack_20 : decode cX4_layBack 20 = .ok (.aload_n 0, 1) := by decide +kernel
theorem dX4_layBack_21 : decode cX4_layBack 21 = .ok (.invokevirtual 80, 3) := by decide +kernel
theorem dX4_layBack_24 : decode cX4_layBack 24 = .ok (.iconst 1, 1) := by decide +kernel
theorem dX4_layBack_25 : decode cX4_layBack 25 = .ok (.ireturn, 1) := by decide +kernel
