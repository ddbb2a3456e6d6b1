set_option maxRecDepth 20000 in
theorem in_wsX5_likeImage_r3 : ∀ w ∈ wsX5_likeImage_r3, w ∈ wsL_law := mem_q _ [(18, 4), (40, 18), (40, 19), (40, 20), (40, 21)] (by decide +kernel)
theorem mm_X5_likeImage : ∀ w ∈ wsX5_likeImage, w ∈ wsL_law := List.forall_mem_cons.mpr ⟨mem_1 41 9 rfl, List.forall_mem_append.mpr ⟨List.forall_mem_append.mpr ⟨in_wsX5_likeImage_r1, List.forall_mem_append.mpr ⟨in_wsX5_likeImage_r2, in_wsX5_likeImage_r3⟩⟩, inlX5⟩⟩
set_option maxRecDepth 20000 in
theorem ggL_law_X5_likeImage : GoodIn wsL_law wsX5_likeImage := goodIn_sub mm_X5_likeImage (by decide +kernel)
set_option maxRecDepth 20000 in
theorem gL_law_X5_likeImage : GoodIn wsL_law (wsV RL 115 RX5 yX5_likeImage wsX5_likeImage) := goodIn_app (goodIn_sub (mem_q _ [(41, 6), (41, 7), (41, 8), (0, 5)] (by decide +kernel)) (by decide +kernel)) ggL_law_X5_likeImage
set_option maxRecDepth 20000 in
theorem in_wsX4_put_r1 : ∀ w ∈ wsX4_put_r1, w ∈ wsL_law := mem_q _ [(0, 18), (26, 21), (23, 13), (23, 14), (0, 17), (23, 15), (2, 4), (41, 14), (14, 12), (14, 13), (41, 15), (13, 20), (13, 21), (13, 22), (2, 18), (2, 17), (34, 11), (34, 12), (34, 13), (0, 2), (34, 14), (1, 11), (1, 10), (1, 8)] (by decide +kernel)
set_option maxRecDepth 20000 in
theorem in_wsX4_put_r2 : ∀ w ∈ wsX4_put_r2, w ∈ wsL_law := mem_q _ [(0, 15), (0, 16), (1, 12), (1, 13), (1, 14), (1, 15), (0, 11), (0, 12), (0, 13), (1, 16), (1, 17), (1, 18), (1, 19), (1, 20), (1, 21), (1, 22), (1, 23), (2, 0), (2, 1), (2, 2), (2, 3), (2, 5), (2, 6), (2, 7)] (by decide +kernel)
set_option maxRecDepth 20000 in
theorem in_wsX4_put_r3 : ∀ w ∈ wsX4_put_r3, w ∈ wsL_law := mem_q _ [(0, 6), (2, 8), (2, 9), (2, 10), (2, 11), (2, 12), (2, 13), (2, 14), (2, 15), (2, 16), (2, 19), (2, 20), (2, 21), (2, 22), (2, 23), (3, 0), (3, 1), (3, 2), (3, 3), (3, 4), (3, 5), (3, 6), (3, 7), (3, 8)] (by decide +kernel)
set_option maxRecDepth 20000 in
theorem in_wsX4_put_r4 : ∀ w ∈ wsX4_put_r4, w ∈ wsL_law := mem_q _ [(3, 9), (3, 10), (3, 11), (3, 12), (16, 13), (16, 14), (16, 15), (16, 16), (16, 17), (16, 18), (16, 19), (16, 20), (16, 21), (16, 22), (16, 23), (17, 0), (17, 1), (41, 16), (14, 15), (14, 16), (14, 17), (14, 18), (14, 0), (14, 1)] (by decide +kernel)
set_option maxRecDepth 20000 in
theorem in_wsX4_put_r5 : ∀ w ∈ wsX4_put_r5, w ∈ wsL_law := mem_q _ [(14, 2), (14, 3), (14, 4), (14, 5), (14, 6), (14, 19), (14, 20), (14, 21), (14, 22), (41, 17), (41, 18), (41, 19), (41, 20), (23, 12), (35, 11), (35, 12), (35, 13), (35, 14), (16, 12), (16, 0), (16, 1), (16, 2), (16, 7), (15, 9)] (by decide +kernel)
set_option maxRecDepth 20000 in
theorem in_wsX4_put_r6 : ∀ w ∈ wsX4_put_r6, w ∈ wsL_law := mem_q _ [(15, 10), (15, 11), (15, 12), (15, 13), (15, 14), (15, 15), (15, 16), (15, 17), (15, 18)] (by decide +kernel)
theorem mm_X4_put : ∀ w ∈ wsX4_put, w ∈ wsL_law := List.forall_mem_cons.mpr ⟨mem_1 41 13 rfl, List.forall_mem_append.mpr ⟨List.forall_mem_append.mpr ⟨List.forall_mem_append.mpr ⟨List.forall_mem_append.mpr ⟨in_wsX4_put_r1, List.forall_mem_append.mpr ⟨in_wsX4_put_r2, List.forall_mem_append.mpr ⟨in_wsX4_put_r3, List.forall_mem_append.mpr ⟨in_wsX4_put_r4, List.forall_mem_append.mpr ⟨in_wsX4_put_r5, in_wsX4_put_r6⟩⟩⟩⟩⟩, inlX4⟩, inlX0⟩, inlX1⟩⟩
set_option maxRecDepth 20000 in
theorem ggL_law_X4_put : GoodIn wsL_law wsX4_put := goodIn_sub mm_X4_put (by decide +kernel)
set_option maxRecDepth 20000 in
theorem gL_law_X4_put : GoodIn wsL_law (wsV RL 116 RX4 yX4_put wsX4_put) := goodIn_app (goodIn_sub (mem_q _ [(41, 10), (41, 11), (41, 12), (0, 2)] (by decide +kernel)) (by decide +kernel)) ggL_law_X4_put
set_option maxRecDepth 20000 in
theorem in_wsX5_put_r1 : ∀ w ∈ wsX5_put_r1, w ∈ wsL_law := mem_q _ [(6, 4), (4, 12), (27, 2), (27, 3), (27, 4), (0, 5), (27, 5), (17, 23), (18, 0), (18, 1), (20, 11), (20, 12), (20, 13), (20, 14), (36, 11), (36, 12), (36, 13), (36, 14), (17, 22), (5, 8), (18, 2), (18, 3), (18, 4), (21, 2)] (by decide +kernel)
set_option maxRecDepth 20000 in
theorem in_wsX5_put_r2 : ∀ w ∈ wsX5_put_r2, w ∈ wsL_law := mem_q _ [(21, 3), (21, 4), (21, 5), (20, 15), (20, 16), (20, 17), (20, 18), (21, 6), (21, 7), (21, 8), (21, 9), (42, 1), (42, 2), (42, 3), (42, 4), (24, 16), (24, 17), (24, 18), (24, 19)] (by decide +kernel)
theorem mm_X5_put : ∀ w ∈ wsX5_put, w ∈ wsL_law := List.forall_mem_cons.mpr ⟨mem_1 42 0 rfl, List.forall_mem_append.mpr ⟨List.forall_mem_append.mpr ⟨in_wsX5_put_r1, in_wsX5_put_r2⟩, inlX5⟩⟩
set_option maxRecDepth 20000 in
theorem ggL_law_X5_put : GoodIn wsL_law wsX5_put := goodIn_sub mm_X5_put (by decide +kernel)
set_option maxRecDepth 20000 in
theorem gL_law_X5_put : GoodIn wsL_law (wsV RL 119 RX5 yX5_put wsX5_put) := goodIn_app (goodIn_sub (mem_q _ [(41, 21), (41, 22), (41, 23), (0, 5)] (by decide +kernel)) (by decide +kernel)) ggL_law_X5_put
set_option maxRecDepth 20000 in
theorem in_wsX4_split_r1 : ∀ w ∈ wsX4_split_r1, w ∈ wsL_law := mem_q _ [(42, 9), (42, 10), (42, 11), (0, 2), (42, 12), (0, 18), (26, 21), (23, 13), (23, 14), (0, 17), (23, 15), (2, 4), (41, 15), (13, 20), (13, 21), (13, 22), (2, 18), (2, 17), (34, 11), (34, 12), (34, 13), (34, 14), (1, 11), (1, 10)] (by decide +kernel)
set_option maxRecDepth 20000 in
theorem in_wsX4_split_r2 : ∀ w ∈ wsX4_split_r2, w ∈ wsL_law := mem_q _ [(1, 8), (0, 15), (0, 16), (1, 12), (1, 13), (1, 14), (1, 15), (0, 11), (0, 12), (0, 13), (1, 16), (1, 17), (1, 18), (1, 19), (1, 20), (1, 21), (1, 22), (1, 23), (2, 0), (2, 1), (2, 2), (2, 3), (2, 5), (2, 6)] (by decide +kernel)
set_option maxRecDepth 20000 in
theorem in_wsX4_split_r3 : ∀ w ∈ wsX4_split_r3, w ∈ wsL_law := mem_q _ [(2, 7), (0, 6), (2, 8), (2, 9), (2, 10), (2, 11), (2, 12), (2, 13), (2, 14), (2, 15), (2, 16), (2, 19), (2, 20), (2, 21), (2, 22), (2, 23), (3, 0), (3, 1), (3, 2), (3, 3), (3, 4), (3, 5), (3, 6), (3, 7)] (by decide +kernel)
set_option maxRecDepth 20000 in
theorem in_wsX4_split_r4 : ∀ w ∈ wsX4_split_r4, w ∈ wsL_law := mem_q _ [(3, 8), (3, 9), (3, 10), (3, 11), (3, 12), (16, 13), (16, 14), (16, 15), (16, 16), (16, 17), (16, 18), (16, 19), (16, 20), (16, 21), (16, 22), (16, 23), (17, 0), (17, 1), (42, 13), (14, 0), (14, 1), (14, 2), (14, 3), (14, 4)] (by decide +kernel)
set_option maxRecDepth 20000 in
theorem in_wsX4_split_r5 : ∀ w ∈ wsX4_split_r5, w ∈ wsL_law := mem_q _ [(14, 5), (14, 6), (41, 17), (41, 18), (41, 19), (41, 20), (23, 12), (35, 11), (35, 12), (35, 13), (35, 14), (16, 12), (16, 0), (16, 1), (16, 2), (16, 7), (15, 9), (15, 10), (15, 11), (14, 19), (14, 20), (14, 21), (14, 22), (15, 12)] (by decide +kernel)
set_option maxRecDepth 20000 in
theorem in_wsX4_split_r6 : ∀ w ∈ wsX4_split_r6, w ∈ wsL_law := mem_q _ [(15, 13), (15, 14), (15, 15), (15, 16), (15, 17), (15, 18), (42, 14), (16, 4), (16, 5), (16, 6)] (by decide +kernel)
theorem mm_X4_split : ∀ w ∈ wsX4_split, w ∈ wsL_law := List.forall_mem_cons.mpr ⟨mem_1 42 8 rfl, List.forall_mem_append.mpr ⟨List.forall_mem_append.mpr ⟨List.forall_mem_append.mpr ⟨List.forall_mem_append.mpr ⟨in_wsX4_split_r1, List.forall_mem_append.mpr ⟨in_wsX4_split_r2, List.forall_mem_append.mpr ⟨in_wsX4_split_r3, List.forall_mem_append.mpr ⟨in_wsX4_split_r4, List.forall_mem_append.mpr ⟨in_wsX4_split_r5, in_wsX4_split_r6⟩⟩⟩⟩⟩, inlX4⟩, inlX0⟩, inlX1⟩⟩
set_option maxRecDepth 20000 in
theorem ggL_law_X4_split : GoodIn wsL_law wsX4_split := goodIn_sub mm_X4_split (by decide +kernel)
set_option maxRecDepth 20000 in
theorem gL_law_X4_split : GoodIn wsL_law (wsV RL 120 RX4 yX4_split wsX4_split) := goodIn_app (goodIn_sub (mem_q _ [(42, 5), (42, 6), (42, 7), (0, 2)] (by decide +kernel)) (by decide +kernel)) ggL_law_X4_split
set_option maxRecDepth 20000 in
theorem in_wsX5_split_r1 : ∀ w ∈ wsX5_split_r1, w ∈ wsL_law := mem_q _ [(6, 4), (42, 19), (42, 20), (42, 21), (0, 5), (42, 22), (4, 12), (27, 2), (27, 3), (27, 4), (27, 5), (17, 23), (18, 0), (18, 1), (20, 11), (20, 12), (20, 13), (20, 14), (36, 11), (36, 12), (36, 13), (36, 14), (17, 22), (5, 8)] (by decide +kernel)
set_option maxRecDepth 20000 in
theorem in_wsX5_split_r2 : ∀ w ∈ wsX5_split_r2, w ∈ wsL_law := mem_q _ [(18, 2), (18, 3), (18, 4), (20, 15), (20, 16), (20, 17), (20, 18), (21, 6), (21, 7), (21, 8), (21, 9), (42, 1), (42, 2), (42, 3), (42, 4), (24, 16), (24, 17), (24, 18), (24, 19)] (by decide +kernel)
theorem mm_X5_split : ∀ w ∈ wsX5_split, w ∈ wsL_law := List.forall_mem_cons.mpr ⟨mem_1 42 18 rfl, List.forall_mem_append.mpr ⟨List.forall_mem_append.mpr ⟨in_wsX5_split_r1, in_wsX5_split_r2⟩, inlX5⟩⟩
set_option maxRecDepth 20000 in
theorem ggL_law_X5_split : GoodIn wsL_law wsX5_split := goodIn_sub mm_X5_split (by decide +kernel)
set_option maxRecDepth 20000 in
theorem gL_law_X5_split : GoodIn wsL_law (wsV RL 123 RX5 yX5_split wsX5_split) := goodIn_app (goodIn_sub (mem_q _ [(42, 15), (42, 16), (42, 17), (0, 5)] (by decide +kernel)) (by decide +kernel)) ggL_law_X5_split
set_option maxRecDepth 20000 in
theorem in_wsX4_twice_r1 : ∀ w ∈ wsX4_twice_r1, w ∈ wsL_law := mem_q _ [(42, 9), (42, 10), (42, 11), (0, 2), (42, 12), (0, 18), (26, 21), (23, 13), (23, 14), (0, 17), (23, 15), (2, 4), (41, 15), (13, 20), (13, 21), (13, 22), (2, 18), (2, 17), (34, 11), (34, 12), (34, 13), (34, 14), (1, 11), (1, 10)] (by decide +kernel)
set_option maxRecDepth 20000 in
theorem in_wsX4_twice_r2 : ∀ w ∈ wsX4_twice_r2, w ∈ wsL_law := mem_q _ [(1, 8), (0, 15), (0, 16), (1, 12), (1, 13), (1, 14), (1, 15), (0, 11), (0, 12), (0, 13), (1, 16), (1, 17), (1, 18), (1, 19), (1, 20), (1, 21), (1, 22), (1, 23), (2, 0), (2, 1), (2, 2), (2, 3), (2, 5), (2, 6)] (by decide +kernel)
set_option maxRecDepth 20000 in
theorem in_wsX4_twice_r3 : ∀ w ∈ wsX4_twice_r3, w ∈ wsL_law := mem_q _ [(2, 7), (0, 6), (2, 8), (2, 9), (2, 10), (2, 11), (2, 12), (2, 13), (2, 14), (2, 15), (2, 16), (2, 19), (2, 20), (2, 21), (2, 22), (2, 23), (3, 0), (3, 1), (3, 2), (3, 3), (3, 4), (3, 5), (3, 6), (3, 7)] (by decide +kernel)
set_option maxRecDepth 20000 in
theorem in_wsX4_twice_r4 : ∀ w ∈ wsX4_twice_r4, w ∈ wsL_law := mem_q _ [(3, 8), (3, 9), (3, 10), (3, 11), (3, 12), (16, 13), (16, 14), (16, 15), (16, 16), (16, 17), (16, 18), (16, 19), (16, 20), (16, 21), (16, 22), (16, 23), (17, 0), (17, 1), (42, 13), (14, 0), (14, 1), (14, 2), (14, 3), (14, 4)] (by decide +kernel)
set_option maxRecDepth 20000 in
theorem in_wsX4_twice_r5 : ∀ w ∈ wsX4_twice_r5, w ∈ wsL_law := mem_q _ [(14, 5), (14, 6), (41, 17), (41, 18), (41, 19), (41, 20), (23, 12), (35, 11), (35, 12), (35, 13), (35, 14), (16, 12), (16, 0), (16, 1), (16, 2), (16, 7), (15, 9), (15, 10), (15, 11), (14, 19), (14, 20), (14, 21), (14, 22), (15, 12)] (by decide +kernel)
set_option maxRecDepth 20000 in
theorem in_wsX4_twice_r6 : ∀ w ∈ wsX4_twice_r6, w ∈ wsL_law := mem_q _ [(15, 13), (15, 14), (15, 15), (15, 16), (15, 17), (15, 18), (42, 14), (16, 4), (16, 5), (16, 6)] (by decide +kernel)
theorem mm_X4_twice : ∀ w ∈ wsX4_twice, w ∈ wsL_law := List.forall_mem_cons.mpr ⟨mem_1 43 2 rfl, List.forall_mem_append.mpr ⟨List.forall_mem_append.mpr ⟨List.forall_mem_append.mpr ⟨List.forall_mem_append.mpr ⟨in_wsX4_twice_r1, List.forall_mem_append.mpr ⟨in_wsX4_twice_r2, List.forall_mem_append.mpr ⟨in_wsX4_twice_r3, List.forall_mem_append.mpr ⟨in_wsX4_twice_r4, List.forall_mem_append.mpr ⟨in_wsX4_twice_r5, in_wsX4_twice_r6⟩⟩⟩⟩⟩, inlX4⟩, inlX0⟩, inlX1⟩⟩
set_option maxRecDepth 20000 in
theorem ggL_law_X4_twice : GoodIn wsL_law wsX4_twice := goodIn_sub mm_X4_twice (by decide +kernel)
set_option maxRecDepth 20000 in
theorem gL_law_X4_twice : GoodIn wsL_law (wsV RL 124 RX4 yX4_twice wsX4_twice) := goodIn_app (goodIn_sub (mem_q _ [(42, 23), (43, 0), (43, 1), (0, 2)] (by decide +kernel)) (by decide +kernel)) ggL_law_X4_twice
set_option maxRecDepth 20000 in
theorem in_wsX5_twice_r1 : ∀ w ∈ wsX5_twice_r1, w ∈ wsL_law := mem_q _ [(6, 4), (42, 19), (42, 20), (42, 21), (0, 5), (42, 22), (4, 12), (27, 2), (27, 3), (27, 4), (27, 5), (17, 23), (18, 0), (18, 1), (20, 11), (20, 12), (20, 13), (20, 14), (36, 11), (36, 12), (36, 13), (36, 14), (17, 22), (5, 8)] (by decide +kernel)
set_option maxRecDepth 20000 in
theorem in_wsX5_twice_r2 : ∀ w ∈ wsX5_twice_r2, w ∈ wsL_law := mem_q _ [(18, 2), (18, 3), (18, 4), (20, 15), (20, 16), (20, 17), (20, 18), (21, 6), (21, 7), (21, 8), (21, 9), (42, 1), (42, 2), (42, 3), (42, 4), (24, 16), (24, 17), (24, 18), (24, 19)] (by decide +kernel)
theorem mm_X5_twice : ∀ w ∈ wsX5_twice, w ∈ wsL_law := List.forall_mem_cons.mpr ⟨mem_1 43 6 rfl, List.forall_mem_append.mpr ⟨List.forall_mem_append.mpr ⟨in_wsX5_twice_r1, in_wsX5_twice_r2⟩, inlX5⟩⟩
set_option maxRecDepth 20000 in
theorem ggL_law_X5_twice : GoodIn wsL_law wsX5_twice := goodIn_sub mm_X5_twice (by decide +kernel)
set_option maxRecDepth 20000 in
theorem gL_law_X5_twice : GoodIn wsL_law (wsV RL 127 RX5 yX5_twice wsX5_twice) := goodIn_app (goodIn_sub (mem_q _ [(43, 3), (43, 4), (43, 5), (0, 5)] (by decide +kernel)) (by decide +kernel)) ggL_law_X5_twice
set_option maxRecDepth 20000 in
theorem in_wsX4_drop_r1 : ∀ w ∈ wsX4_drop_r1, w ∈ wsL_law := mem_q _ [(0, 18), (26, 21), (23, 13), (23, 14), (0, 17), (23, 15), (2, 4), (41, 15), (13, 20), (13, 21), (13, 22), (2, 18), (2, 17), (34, 11), (34, 12), (34, 13), (0, 2), (34, 14), (1, 11), (1, 10), (1, 8), (0, 15), (0, 16), (1, 12)] (by decide +kernel)
set_option maxRecDepth 20000 in
theorem in_wsX4_drop_r2 : ∀ w ∈ wsX4_drop_r2, w ∈ wsL_law := mem_q _ [(1, 13), (1, 14), (1, 15), (0, 11), (0, 12), (0, 13), (1, 16), (1, 17), (1, 18), (1, 19), (1, 20), (1, 21), (1, 22), (1, 23), (2, 0), (2, 1), (2, 2), (2, 3), (2, 5), (2, 6), (2, 7), (0, 6), (2, 8), (2, 9)] (by decide +kernel)
set_option maxRecDepth 20000 in
theorem in_wsX4_drop_r3 : ∀ w ∈ wsX4_drop_r3, w ∈ wsL_law := mem_q _ [(2, 10), (2, 11), (2, 12), (2, 13), (2, 14), (2, 15), (2, 16), (2, 19), (2, 20), (2, 21), (2, 22), (2, 23), (3, 0), (3, 1), (3, 2), (3, 3), (3, 4), (3, 5), (3, 6), (3, 7), (3, 8), (3, 9), (3, 10), (3, 11)] (by decide +kernel)
set_option maxRecDepth 20000 in
theorem in_wsX4_drop_r4 : ∀ w ∈ wsX4_drop_r4, w ∈ wsL_law := mem_q _ [(3, 12), (16, 13), (16, 14), (16, 15), (16, 16), (16, 17), (16, 18), (16, 19), (16, 20), (16, 21), (16, 22), (16, 23), (17, 0), (17, 1), (42, 13), (14, 0), (14, 1), (14, 2), (14, 3), (14, 4), (14, 5), (14, 6), (41, 17), (41, 18)] (by decide +kernel)
set_option maxRecDepth 20000 in
theorem in_wsX4_drop_r5 : ∀ w ∈ wsX4_drop_r5, w ∈ wsL_law := mem_q _ [(41, 19), (41, 20), (23, 12), (35, 11), (35, 12), (35, 13), (35, 14), (16, 12), (16, 0), (16, 1), (16, 2), (16, 7), (15, 9), (15, 10), (15, 11), (14, 19), (14, 20), (14, 21), (14, 22), (15, 12), (15, 13), (15, 14), (15, 15), (15, 16)] (by decide +kernel)
set_option maxRecDepth 20000 in
theorem in_wsX4_drop_r6 : ∀ w ∈ wsX4_drop_r6, w ∈ wsL_law := mem_q _ [(15, 17), (15, 18)] (by decide +kernel)
theorem mm_X4_drop : ∀ w ∈ wsX4_drop, w ∈ wsL_law := List.forall_mem_cons.mpr ⟨mem_1 43 10 rfl, List.forall_mem_append.mpr ⟨List.forall_mem_append.mpr ⟨List.forall_mem_append.mpr ⟨List.forall_mem_append.mpr ⟨in_wsX4_drop_r1, List.forall_mem_append.mpr ⟨in_wsX4_drop_r2, List.forall_mem_append.mpr ⟨in_wsX4_drop_r3, List.forall_mem_append.mpr ⟨in_wsX4_drop_r4, List.forall_mem_append.mpr ⟨in_wsX4_drop_r5, in_wsX4_drop_r6⟩⟩⟩⟩⟩, inlX4⟩, inlX0⟩, inlX1⟩⟩
set_option maxRecDepth 20000 in
theorem ggL_law_X4_drop : GoodIn wsL_law wsX4_drop := goodIn_sub mm_X4_drop (by decide +kernel)
set_option maxRecDepth 20000 in
theorem gL_law_X4_drop : GoodIn wsL_law (wsV RL 128 RX4 yX4_drop wsX4_drop) := goodIn_app (goodIn_sub (mem_q _ [(43, 7), (43, 8), (43, 9), (0, 2)] (by decide +kernel)) (by decide +kernel)) ggL_law_X4_drop
set_option maxRecDepth 20000 in
theorem in_wsX5_drop_r1 : ∀ w ∈ wsX5_drop_r1, w ∈ wsL_law := mem_q _ [(6, 4), (4, 12), (27, 2), (27, 3), (27, 4), (0, 5), (27, 5), (17, 23), (18, 0), (18, 1), (20, 11), (20, 12), (20, 13), (20, 14), (36, 11), (36, 12), (36, 13), (36, 14), (17, 22), (5, 8), (18, 2), (18, 3), (18, 4), (20, 15)] (by decide +kernel)
set_option maxRecDepth 20000 in
theorem in_wsX5_drop_r2 : ∀ w ∈ wsX5_drop_r2, w ∈ wsL_law := mem_q _ [(20, 16), (20, 17), (20, 18), (42, 1), (42, 2), (42, 3), (42, 4), (24, 16), (24, 17), (24, 18), (24, 19), (21, 6), (21, 7), (21, 8), (21, 9)] (by decide +kernel)
theorem mm_X5_drop : ∀ w ∈ wsX5_drop, w ∈ wsL_law := List.forall_mem_cons.mpr ⟨mem_1 43 14 rfl, List.forall_mem_append.mpr ⟨List.forall_mem_append.mpr ⟨in_wsX5_drop_r1, in_wsX5_drop_r2⟩, inlX5⟩⟩
set_option maxRecDepth 20000 in
theorem ggL_law_X5_drop : GoodIn wsL_law wsX5_drop := goodIn_sub mm_X5_drop (by decide +kernel)
set_option maxRecDepth 20000 in
theorem gL_law_X5_drop : GoodIn wsL_law (wsV RL 131 RX5 yX5_drop wsX5_drop) := goodIn_app (goodIn_sub (mem_q _ [(43, 11), (43, 12), (43, 13), (0, 5)] (by decide +kernel)) (by decide +kernel)) ggL_law_X5_drop
set_option maxRecDepth 20000 in
theorem in_wsX4_join_r1 : ∀ w ∈ wsX4_join_r1, w ∈ wsL_law := mem_q _ [(0, 18), (26, 21), (23, 13), (23, 14), (0, 17), (23, 15), (2, 4), (34, 11), (34, 12), (34, 13), (0, 2), (34, 14), (1, 11), (1, 10), (1, 8), (0, 15), (0, 16), (1, 12), (1, 13), (1, 14), (1, 15), (0, 11), (0, 12), (0, 13)] (by decide +kernel)
set_option maxRecDepth 20000 in
theorem in_wsX4_join_r2 : ∀ w ∈ wsX4_join_r2, w ∈ wsL_law := mem_q _ [(1, 16), (1, 17), (1, 18), (1, 19), (1, 20), (1, 21), (1, 22), (1, 23), (2, 0), (2, 1), (2, 2), (2, 3), (2, 5), (2, 6), (2, 7), (0, 6), (2, 8), (2, 9), (2, 10), (2, 11), (2, 12), (2, 13), (2, 14), (2, 15)] (by decide +kernel)
set_option maxRecDepth 20000 in
theorem in_wsX4_join_r3 : ∀ w ∈ wsX4_join_r3, w ∈ wsL_law := mem_q _ [(2, 16), (2, 17), (2, 18), (2, 19), (2, 20), (2, 21), (2, 22), (2, 23), (3, 0), (3, 1), (3, 2), (3, 3), (3, 4), (3, 5), (3, 6), (3, 7), (3, 8), (3, 9), (3, 10), (3, 11), (3, 12), (16, 13), (16, 14), (16, 15)] (by decide +kernel)
set_option maxRecDepth 20000 in
theorem in_wsX4_join_r4 : ∀ w ∈ wsX4_join_r4, w ∈ wsL_law := mem_q _ [(16, 16), (16, 17), (16, 18), (16, 19), (16, 20), (16, 21), (16, 22), (16, 23), (17, 0), (17, 1), (43, 19), (43, 20), (43, 21), (43, 22), (23, 12), (35, 19), (16, 9), (16, 10), (16, 11), (16, 12), (16, 0), (16, 1), (16, 2), (16, 7)] (by decide +kernel)
set_option maxRecDepth 20000 in
theorem in_wsX4_join_r5 : ∀ w ∈ wsX4_join_r5, w ∈ wsL_law := mem_q _ [(15, 9), (15, 10), (15, 11), (14, 19), (14, 20), (14, 21), (14, 22), (15, 12), (15, 13), (15, 14), (15, 15), (15, 16), (15, 17), (15, 18), (23, 8), (23, 9), (23, 10), (23, 11)] (by decide +kernel)
theorem mm_X4_join : ∀ w ∈ wsX4_join, w ∈ wsL_law := List.forall_mem_cons.mpr ⟨mem_1 43 18 rfl, List.forall_mem_append.mpr ⟨List.forall_mem_append.mpr ⟨List.forall_mem_append.mpr ⟨List.forall_mem_append.mpr ⟨in_wsX4_join_r1, List.forall_mem_append.mpr ⟨in_wsX4_join_r2, List.forall_mem_append.mpr ⟨in_wsX4_join_r3, List.forall_mem_append.mpr ⟨in_wsX4_join_r4, in_wsX4_join_r5⟩⟩⟩⟩, inlX4⟩, inlX0⟩, inlX1⟩⟩
set_option maxRecDepth 20000 in
theorem ggL_law_X4_join : GoodIn wsL_law wsX4_join := goodIn_sub mm_X4_join (by decide +kernel)
set_option maxRecDepth 20000 in
theorem gL_law_X4_join : GoodIn wsL_law (wsV RL 132 RX4 yX4_join wsX4_join) := goodIn_app (goodIn_sub (mem_q _ [(43, 15), (43, 16), (43, 17), (0, 2)] (by decide +kernel)) (by decide +kernel)) ggL_law_X4_join
set_option maxRecDepth 20000 in
theorem in_wsX5_join_r1 : ∀ w ∈ wsX5_join_r1, w ∈ wsL_law := mem_q _ [(6, 4), (4, 12), (27, 2), (27, 3), (27, 4), (0, 5), (27, 5), (17, 23), (18, 0), (18, 1), (36, 11), (36, 12), (36, 13), (36, 14), (17, 22), (5, 8), (18, 2), (18, 3), (18, 4), (24, 16), (24, 17), (24, 18), (24, 19), (21, 6)] (by decide +kernel)
set_option maxRecDepth 20000 in
theorem in_wsX5_join_r2 : ∀ w ∈ wsX5_join_r2, w ∈ wsL_law := mem_q _ [(21, 7), (21, 8), (21, 9), (25, 8), (25, 9), (25, 10), (25, 11)] (by decide +kernel)
theorem mm_X5_join : ∀ w ∈ wsX5_join, w ∈ wsL_law := List.forall_mem_cons.mpr ⟨mem_1 44 2 rfl, List.forall_mem_append.mpr ⟨List.forall_mem_append.mpr ⟨in_wsX5_join_r1, in_wsX5_join_r2⟩, inlX5⟩⟩
set_option maxRecDepth 20000 in
theorem ggL_law_X5_join : GoodIn wsL_law wsX5_join := goodIn_sub mm_X5_join (by decide +kernel)
set_option maxRecDepth 20000 in
theorem gL_law_X5_join : GoodIn wsL_law (wsV RL 135 RX5 yX5_join wsX5_join) := goodIn_app (goodIn_sub (mem_q _ [(43, 23), (44, 0), (44, 1), (0, 5)] (by decide +kernel)) (by decide +kernel)) ggL_law_X5_join
set_option maxRecDepth 20000 in
theorem in_wsX4_undo_r1 : ∀ w ∈ wsX4_undo_r1, w ∈ wsL_law := mem_q _ [(1, 11), (1, 8), (1, 10), (0, 18), (16, 13), (16, 14), (16, 15), (0, 17), (16, 16), (1, 16), (16, 17), (16, 18), (16, 19), (16, 20), (2, 4), (1, 17), (1, 18), (1, 22), (2, 17), (2, 18), (2, 19), (2, 20), (2, 21), (2, 22)] (by decide +kernel)
set_option maxRecDepth 20000 in
theorem in_wsX4_undo_r2 : ∀ w ∈ wsX4_undo_r2, w ∈ wsL_law := mem_q _ [(2, 23), (3, 0), (16, 21), (16, 22), (16, 23), (1, 21), (17, 0), (2, 8), (17, 1), (2, 9)] (by decide +kernel)
theorem mm_X4_undo : ∀ w ∈ wsX4_undo, w ∈ wsL_law := List.forall_mem_cons.mpr ⟨mem_1 44 6 rfl, List.forall_mem_append.mpr ⟨List.forall_mem_append.mpr ⟨List.forall_mem_append.mpr ⟨List.forall_mem_append.mpr ⟨in_wsX4_undo_r1, in_wsX4_undo_r2⟩, inlX4⟩, inlX0⟩, inlX1⟩⟩
set_option maxRecDepth 20000 in
theorem ggL_law_X4_undo : GoodIn wsL_law wsX4_undo := goodIn_sub mm_X4_undo (by decide +kernel)
set_option maxRecDepth 20000 in
theorem gL_law_X4_undo : GoodIn wsL_law (wsV RL 136 RX4 yX4_undo wsX4_undo) := goodIn_app (goodIn_sub (mem_q _ [(44, 3), (44, 4), (44, 5), (0, 2)] (by decide +kernel)) (by decide +kernel)) ggL_law_X4_undo
set_option maxRecDepth 20000 in
theorem in_lit_189 : ∀ w ∈ ([.fieldLink RX5 1 "CombinatorRingModel" "thrown" "I", .fieldLink RX5 212 "CombinatorRingModel" "backMany" "I", .fieldLink RX5 73 "CombinatorRingModel" "backs" "[I", .fieldLink RX5 7 "CombinatorRingModel" "now" "[I", .methodLink RX5 196 yX5_copies, .static yX5_copies, .initialized RX5, .code yX5_copies cX5_copies 5 none] : List Cond), w ∈ wsL_law := mem_q _ [(6, 4), (17, 22), (5, 8), (4, 12), (18, 2), (18, 3), (0, 5), (18, 4)] (by decide +kernel)
theorem mm_X5_undo : ∀ w ∈ wsX5_undo, w ∈ wsL_law := List.forall_mem_cons.mpr ⟨mem_1 44 10 rfl, List.forall_mem_append.mpr ⟨in_lit_189, inlX5⟩⟩
set_option maxRecDepth 20000 in
theorem ggL_law_X5_undo : GoodIn wsL_law wsX5_undo := goodIn_sub mm_X5_undo (by decide +kernel)
set_option maxRecDepth 20000 in
theorem gL_law_X5_undo : GoodIn wsL_law (wsV RL 139 RX5 yX5_undo wsX5_undo) := goodIn_app (goodIn_sub (mem_q _ [(44, 7), (44, 8), (44, 9), (0, 5)] (by decide +kernel)) (by decide +kernel)) ggL_law_X5_undo
set_option maxRecDepth 20000 in
theorem in_wsX4_image_r1 : ∀ w ∈ wsX4_image_r1, w ∈ wsL_law := mem_q _ [(1, 5), (0, 15), (0, 16), (0, 17), (0, 18), (1, 7), (44, 15), (44, 16), (44, 17), (0, 2), (44, 18), (41, 2), (41, 3), (41, 4), (41, 5), (16, 13), (16, 14), (16, 15), (16, 16), (1, 16), (16, 17), (16, 18), (16, 19), (16, 20)] (by decide +kernel)
set_option maxRecDepth 20000 in
theorem in_wsX4_image_r2 : ∀ w ∈ wsX4_image_r2, w ∈ wsL_law := mem_q _ [(2, 4), (1, 17), (1, 18), (1, 22), (2, 17), (2, 18), (2, 19), (2, 20), (2, 21), (2, 22), (2, 23), (3, 0), (16, 21), (16, 22), (16, 23), (1, 21), (17, 0), (2, 8), (17, 1), (2, 9), (17, 6), (17, 7), (17, 8), (17, 9)] (by decide +kernel)
set_option maxRecDepth 20000 in
theorem in_wsX4_image_r3 : ∀ w ∈ wsX4_image_r3, w ∈ wsL_law := mem_q _ [(1, 10), (1, 11), (1, 12), (1, 13), (1, 14), (1, 15), (0, 11), (0, 12), (0, 13), (1, 19), (1, 20), (1, 23), (2, 0), (2, 1), (2, 2), (2, 3), (2, 5), (2, 6), (2, 7), (0, 6), (2, 10), (2, 11), (2, 12), (2, 13)] (by decide +kernel)
set_option maxRecDepth 20000 in
theorem in_wsX4_image_r4 : ∀ w ∈ wsX4_image_r4, w ∈ wsL_law := mem_q _ [(2, 14), (2, 15), (2, 16), (3, 1), (3, 2), (3, 3), (3, 4), (3, 5), (3, 6), (3, 7), (3, 8), (3, 9), (3, 10), (3, 11), (3, 12)] (by decide +kernel)
theorem mm_X4_image : ∀ w ∈ wsX4_image, w ∈ wsL_law := List.forall_mem_cons.mpr ⟨mem_1 44 14 rfl, List.forall_mem_append.mpr ⟨List.forall_mem_append.mpr ⟨List.forall_mem_append.mpr ⟨List.forall_mem_append.mpr ⟨in_wsX4_image_r1, List.forall_mem_append.mpr ⟨in_wsX4_image_r2, List.forall_mem_append.mpr ⟨in_wsX4_image_r3, in_wsX4_image_r4⟩⟩⟩, inlX4⟩, inlX0⟩, inlX1⟩⟩
set_option maxRecDepth 20000 in
theorem ggL_law_X4_image : GoodIn wsL_law wsX4_image := goodIn_sub mm_X4_image (by decide +kernel)
set_option maxRecDepth 20000 in
theorem gL_law_X4_image : GoodIn wsL_law (wsV RL 140 RX4 yX4_image wsX4_image) := goodIn_app (goodIn_sub (mem_q _ [(44, 11), (44, 12), (44, 13), (0, 2)] (by decide +kernel)) (by decide +kernel)) ggL_law_X4_image
set_option maxRecDepth 20000 in
theorem in_lit_194 : ∀ w ∈ ([.fieldLink RX5 1 "CombinatorRingModel" "thrown" "I", .fieldLink RX5 79 "CombinatorRingModel" "hasImage" "[Z", .fieldLink RX5 82 "CombinatorRingModel" "images" "[I", .fieldLink RX5 7 "CombinatorRingModel" "now" "[I", .fieldLink RX5 212 "CombinatorRingModel" "backMany" "I", .methodLink RX5 89 yX5_within, .static yX5_within, .initialized RX5, .code yX5_within cX5_within 3 (some .boolean), .methodLink RX5 196 yX5_copies, .static yX5_copies, .code yX5_copies cX5_copies 5 none] : List Cond), w ∈ wsL_law := mem_q _ [(6, 4), (5, 10), (5, 11), (4, 12), (17, 22), (17, 23), (18, 0), (0, 5), (18, 1), (18, 2), (18, 3), (18, 4)] (by decide +kernel)
theorem mm_X5_image : ∀ w ∈ wsX5_image, w ∈ wsL_law := List.forall_mem_cons.mpr ⟨mem_1 44 22 rfl, List.forall_mem_append.mpr ⟨in_lit_194, inlX5⟩⟩
set_option maxRecDepth 20000 in
theorem ggL_law_X5_image : GoodIn wsL_law wsX5_image := goodIn_sub mm_X5_image (by decide +kernel)
set_option maxRecDepth 20000 in
theorem gL_law_X5_image : GoodIn wsL_law (wsV RL 144 RX5 yX5_image wsX5_image) := goodIn_app (goodIn_sub (mem_q _ [(44, 19), (44, 20), (44, 21), (0, 5)] (by decide +kernel)) (by decide +kernel)) ggL_law_X5_image
