set_option maxRecDepth 20000 in
theorem in_wsX4_round_r5 : ∀ w ∈ wsX4_round_r5, w ∈ wsL_law := mem_q _ [(23, 1), (34, 21), (27, 19), (27, 20), (27, 21), (27, 22), (27, 23), (28, 0), (38, 6), (28, 12), (28, 13), (28, 14), (28, 15), (28, 6), (28, 7), (28, 8), (28, 9), (26, 1), (26, 2), (26, 3), (28, 10), (28, 2), (28, 3), (28, 4)] (by decide +kernel)
set_option maxRecDepth 20000 in
theorem in_wsX4_round_r6 : ∀ w ∈ wsX4_round_r6, w ∈ wsL_law := mem_q _ [(16, 12), (16, 0), (16, 1), (16, 2), (15, 12), (15, 13), (15, 14), (23, 6), (13, 20), (13, 21), (13, 22), (34, 22), (34, 23), (35, 0), (35, 1), (35, 2), (35, 3), (35, 4), (35, 5), (35, 6), (35, 7), (35, 8), (35, 9), (35, 10)] (by decide +kernel)
set_option maxRecDepth 20000 in
theorem in_wsX4_round_r7 : ∀ w ∈ wsX4_round_r7, w ∈ wsL_law := mem_q _ [(35, 11), (35, 12), (35, 13), (35, 14), (16, 7), (15, 9), (15, 10), (15, 11), (14, 19), (14, 20), (14, 21), (14, 22), (15, 15), (15, 16), (15, 17), (15, 18), (35, 15), (35, 16), (35, 17), (35, 18), (35, 19), (16, 9), (16, 10), (16, 11)] (by decide +kernel)
set_option maxRecDepth 20000 in
theorem in_wsX4_round_r8 : ∀ w ∈ wsX4_round_r8, w ∈ wsL_law := mem_q _ [(35, 20), (35, 21), (35, 22), (35, 23), (14, 18), (14, 0), (14, 1), (14, 2), (14, 3), (14, 4), (14, 5), (14, 6), (36, 0), (36, 1), (36, 2), (36, 3)] (by decide +kernel)
theorem mm_X4_round : ∀ w ∈ wsX4_round, w ∈ wsL_law := List.forall_mem_cons.mpr ⟨mem_1 38 1 rfl, List.forall_mem_append.mpr ⟨List.forall_mem_append.mpr ⟨List.forall_mem_append.mpr ⟨List.forall_mem_append.mpr ⟨in_wsX4_round_r1, List.forall_mem_append.mpr ⟨in_wsX4_round_r2, List.forall_mem_append.mpr ⟨in_wsX4_round_r3, List.forall_mem_append.mpr ⟨in_wsX4_round_r4, List.forall_mem_append.mpr ⟨in_wsX4_round_r5, List.forall_mem_append.mpr ⟨in_wsX4_round_r6, List.forall_mem_append.mpr ⟨in_wsX4_round_r7, in_wsX4_round_r8⟩⟩⟩⟩⟩⟩⟩, inlX4⟩, inlX0⟩, inlX1⟩⟩
set_option maxRecDepth 20000 in
theorem ggL_law_X4_round : GoodIn wsL_law wsX4_round := goodIn_sub mm_X4_round (by decide +kernel)
set_option maxRecDepth 20000 in
theorem gL_law_X4_round : GoodIn wsL_law (wsV RL 91 RX4 yX4_round wsX4_round) := goodIn_app (goodIn_sub (mem_q _ [(37, 22), (37, 23), (38, 0), (0, 2)] (by decide +kernel)) (by decide +kernel)) ggL_law_X4_round
set_option maxRecDepth 20000 in
theorem in_wsX5_round_r1 : ∀ w ∈ wsX5_round_r1, w ∈ wsL_law := mem_q _ [(6, 4), (36, 11), (36, 12), (36, 13), (0, 5), (36, 14), (17, 22), (5, 8), (4, 12), (18, 2), (18, 3), (18, 4), (38, 11), (38, 12), (38, 13), (38, 14), (5, 1), (24, 4), (24, 5), (24, 6), (24, 7), (24, 8), (24, 9), (24, 10)] (by decide +kernel)
set_option maxRecDepth 20000 in
theorem in_wsX5_round_r2 : ∀ w ∈ wsX5_round_r2, w ∈ wsL_law := mem_q _ [(24, 11), (17, 23), (18, 0), (18, 1), (24, 12), (24, 13), (24, 14), (24, 15), (24, 16), (24, 17), (24, 18), (24, 19), (24, 20), (24, 21), (24, 22), (24, 23), (25, 0), (25, 1), (25, 2), (25, 3), (25, 4), (25, 5), (25, 6), (25, 7)] (by decide +kernel)
set_option maxRecDepth 20000 in
theorem in_wsX5_round_r3 : ∀ w ∈ wsX5_round_r3, w ∈ wsL_law := mem_q _ [(20, 11), (20, 12), (20, 13), (20, 14), (37, 2), (37, 3), (37, 4), (37, 5), (4, 21), (4, 22), (4, 23), (37, 6), (37, 7), (37, 8), (37, 9), (37, 10), (37, 11), (37, 12), (37, 13), (5, 0), (37, 14), (37, 15), (37, 16), (37, 17)] (by decide +kernel)
set_option maxRecDepth 20000 in
theorem in_wsX5_round_r4 : ∀ w ∈ wsX5_round_r4, w ∈ wsL_law := mem_q _ [(21, 6), (21, 7), (21, 8), (21, 9), (20, 15), (20, 16), (20, 17), (20, 18), (37, 18), (37, 19), (37, 20), (37, 21)] (by decide +kernel)
theorem mm_X5_round : ∀ w ∈ wsX5_round, w ∈ wsL_law := List.forall_mem_cons.mpr ⟨mem_1 38 10 rfl, List.forall_mem_append.mpr ⟨List.forall_mem_append.mpr ⟨in_wsX5_round_r1, List.forall_mem_append.mpr ⟨in_wsX5_round_r2, List.forall_mem_append.mpr ⟨in_wsX5_round_r3, in_wsX5_round_r4⟩⟩⟩, inlX5⟩⟩
set_option maxRecDepth 20000 in
theorem ggL_law_X5_round : GoodIn wsL_law wsX5_round := goodIn_sub mm_X5_round (by decide +kernel)
set_option maxRecDepth 20000 in
theorem gL_law_X5_round : GoodIn wsL_law (wsV RL 94 RX5 yX5_round wsX5_round) := goodIn_app (goodIn_sub (mem_q _ [(38, 7), (38, 8), (38, 9), (0, 5)] (by decide +kernel)) (by decide +kernel)) ggL_law_X5_round
set_option maxRecDepth 20000 in
theorem in_wsX4_reduce_r1 : ∀ w ∈ wsX4_reduce_r1, w ∈ wsL_law := mem_q _ [(0, 18), (38, 19), (38, 20), (38, 21), (1, 21), (38, 22), (22, 15), (22, 16), (22, 17), (22, 18), (2, 8), (2, 9), (28, 11), (28, 12), (28, 13), (0, 17), (28, 14), (28, 15), (28, 6), (28, 7), (28, 8), (28, 9), (26, 1), (26, 2)] (by decide +kernel)
set_option maxRecDepth 20000 in
theorem in_wsX4_reduce_r2 : ∀ w ∈ wsX4_reduce_r2, w ∈ wsL_law := mem_q _ [(26, 3), (1, 16), (28, 10), (28, 2), (28, 3), (28, 4), (16, 12), (16, 0), (16, 1), (16, 2), (2, 4), (15, 12), (15, 13), (15, 14), (23, 6), (13, 20), (13, 21), (13, 22), (2, 18), (2, 17), (34, 11), (34, 12), (34, 13), (0, 2)] (by decide +kernel)
set_option maxRecDepth 20000 in
theorem in_wsX4_reduce_r3 : ∀ w ∈ wsX4_reduce_r3, w ∈ wsL_law := mem_q _ [(34, 14), (1, 11), (1, 10), (1, 8), (0, 15), (0, 16), (1, 12), (1, 13), (1, 14), (1, 15), (0, 11), (0, 12), (0, 13), (1, 17), (1, 18), (1, 19), (1, 20), (1, 22), (1, 23), (2, 0), (2, 1), (2, 2), (2, 3), (2, 5)] (by decide +kernel)
set_option maxRecDepth 20000 in
theorem in_wsX4_reduce_r4 : ∀ w ∈ wsX4_reduce_r4, w ∈ wsL_law := mem_q _ [(2, 6), (2, 7), (0, 6), (2, 10), (2, 11), (2, 12), (2, 13), (2, 14), (2, 15), (2, 16), (2, 19), (2, 20), (2, 21), (2, 22), (2, 23), (3, 0), (3, 1), (3, 2), (3, 3), (3, 4), (3, 5), (3, 6), (3, 7), (3, 8)] (by decide +kernel)
set_option maxRecDepth 20000 in
theorem in_wsX4_reduce_r5 : ∀ w ∈ wsX4_reduce_r5, w ∈ wsL_law := mem_q _ [(3, 9), (3, 10), (3, 11), (3, 12), (16, 13), (16, 14), (16, 15), (16, 16), (16, 17), (16, 18), (16, 19), (16, 20), (16, 21), (16, 22), (16, 23), (17, 0), (17, 1), (38, 23), (34, 23), (35, 0), (35, 1), (35, 2), (35, 3), (35, 4)] (by decide +kernel)
set_option maxRecDepth 20000 in
theorem in_wsX4_reduce_r6 : ∀ w ∈ wsX4_reduce_r6, w ∈ wsL_law := mem_q _ [(35, 5), (35, 6), (35, 7), (35, 8), (35, 9), (35, 10), (35, 11), (35, 12), (35, 13), (35, 14), (16, 7), (15, 9), (15, 10), (15, 11), (14, 19), (14, 20), (14, 21), (14, 22), (15, 15), (15, 16), (15, 17), (15, 18), (35, 15), (35, 16)] (by decide +kernel)
set_option maxRecDepth 20000 in
theorem in_wsX4_reduce_r7 : ∀ w ∈ wsX4_reduce_r7, w ∈ wsL_law := mem_q _ [(35, 17), (35, 18), (35, 19), (16, 9), (16, 10), (16, 11), (35, 20), (35, 21), (35, 22), (35, 23), (14, 18), (14, 0), (14, 1), (14, 2), (14, 3), (14, 4), (14, 5), (14, 6), (36, 0), (36, 1), (36, 2), (36, 3)] (by decide +kernel)
theorem mm_X4_reduce : ∀ w ∈ wsX4_reduce, w ∈ wsL_law := List.forall_mem_cons.mpr ⟨mem_1 38 18 rfl, List.forall_mem_append.mpr ⟨List.forall_mem_append.mpr ⟨List.forall_mem_append.mpr ⟨List.forall_mem_append.mpr ⟨in_wsX4_reduce_r1, List.forall_mem_append.mpr ⟨in_wsX4_reduce_r2, List.forall_mem_append.mpr ⟨in_wsX4_reduce_r3, List.forall_mem_append.mpr ⟨in_wsX4_reduce_r4, List.forall_mem_append.mpr ⟨in_wsX4_reduce_r5, List.forall_mem_append.mpr ⟨in_wsX4_reduce_r6, in_wsX4_reduce_r7⟩⟩⟩⟩⟩⟩, inlX4⟩, inlX0⟩, inlX1⟩⟩
set_option maxRecDepth 20000 in
theorem ggL_law_X4_reduce : GoodIn wsL_law wsX4_reduce := goodIn_sub mm_X4_reduce (by decide +kernel)
set_option maxRecDepth 20000 in
theorem gL_law_X4_reduce : GoodIn wsL_law (wsV RL 95 RX4 yX4_reduce wsX4_reduce) := goodIn_app (goodIn_sub (mem_q _ [(38, 15), (38, 16), (38, 17), (0, 2)] (by decide +kernel)) (by decide +kernel)) ggL_law_X4_reduce
set_option maxRecDepth 20000 in
theorem in_wsX5_reduce_r1 : ∀ w ∈ wsX5_reduce_r1, w ∈ wsL_law := mem_q _ [(6, 4), (24, 4), (24, 5), (24, 6), (0, 5), (24, 7), (24, 8), (24, 9), (24, 10), (24, 11), (4, 12), (17, 23), (18, 0), (18, 1), (24, 12), (24, 13), (24, 14), (24, 15), (24, 16), (24, 17), (24, 18), (24, 19), (24, 20), (24, 21)] (by decide +kernel)
set_option maxRecDepth 20000 in
theorem in_wsX5_reduce_r2 : ∀ w ∈ wsX5_reduce_r2, w ∈ wsL_law := mem_q _ [(24, 22), (24, 23), (25, 0), (25, 1), (25, 2), (25, 3), (25, 4), (25, 5), (25, 6), (25, 7), (20, 11), (20, 12), (20, 13), (20, 14), (36, 11), (36, 12), (36, 13), (36, 14), (17, 22), (5, 8), (18, 2), (18, 3), (18, 4), (37, 2)] (by decide +kernel)
set_option maxRecDepth 20000 in
theorem in_wsX5_reduce_r3 : ∀ w ∈ wsX5_reduce_r3, w ∈ wsL_law := mem_q _ [(37, 3), (37, 4), (37, 5), (4, 21), (4, 22), (4, 23), (37, 6), (37, 7), (37, 8), (37, 9), (37, 10), (37, 11), (37, 12), (37, 13), (5, 0), (37, 14), (37, 15), (37, 16), (37, 17), (21, 6), (21, 7), (21, 8), (21, 9), (20, 15)] (by decide +kernel)
set_option maxRecDepth 20000 in
theorem in_wsX5_reduce_r4 : ∀ w ∈ wsX5_reduce_r4, w ∈ wsL_law := mem_q _ [(20, 16), (20, 17), (20, 18), (37, 18), (37, 19), (37, 20), (37, 21)] (by decide +kernel)
theorem mm_X5_reduce : ∀ w ∈ wsX5_reduce, w ∈ wsL_law := List.forall_mem_cons.mpr ⟨mem_1 39 3 rfl, List.forall_mem_append.mpr ⟨List.forall_mem_append.mpr ⟨in_wsX5_reduce_r1, List.forall_mem_append.mpr ⟨in_wsX5_reduce_r2, List.forall_mem_append.mpr ⟨in_wsX5_reduce_r3, in_wsX5_reduce_r4⟩⟩⟩, inlX5⟩⟩
set_option maxRecDepth 20000 in
theorem ggL_law_X5_reduce : GoodIn wsL_law wsX5_reduce := goodIn_sub mm_X5_reduce (by decide +kernel)
set_option maxRecDepth 20000 in
theorem gL_law_X5_reduce : GoodIn wsL_law (wsV RL 98 RX5 yX5_reduce wsX5_reduce) := goodIn_app (goodIn_sub (mem_q _ [(39, 0), (39, 1), (39, 2), (0, 5)] (by decide +kernel)) (by decide +kernel)) ggL_law_X5_reduce
set_option maxRecDepth 20000 in
theorem in_wsX4_tried_r1 : ∀ w ∈ wsX4_tried_r1, w ∈ wsL_law := mem_q _ [(0, 19), (0, 18), (34, 5), (34, 6), (0, 2), (34, 7), (34, 8), (34, 9), (34, 10), (16, 13), (16, 14), (16, 15), (0, 17), (16, 16), (1, 16), (16, 17), (16, 18), (16, 19), (16, 20), (2, 4), (1, 17), (1, 18), (1, 22), (2, 17)] (by decide +kernel)
set_option maxRecDepth 20000 in
theorem in_wsX4_tried_r2 : ∀ w ∈ wsX4_tried_r2, w ∈ wsL_law := mem_q _ [(2, 18), (2, 19), (2, 20), (2, 21), (2, 22), (2, 23), (3, 0), (16, 21), (16, 22), (16, 23), (1, 21), (17, 0), (2, 8), (17, 1), (2, 9), (34, 15), (34, 16), (34, 17), (34, 18), (3, 1), (34, 19), (2, 0), (2, 1), (2, 2)] (by decide +kernel)
set_option maxRecDepth 20000 in
theorem in_wsX4_tried_r3 : ∀ w ∈ wsX4_tried_r3, w ∈ wsL_law := mem_q _ [(2, 3), (34, 20), (23, 3), (23, 4), (23, 5), (23, 6), (13, 20), (13, 21), (13, 22), (23, 7), (22, 12), (22, 13), (22, 14), (22, 15), (22, 16), (22, 17), (22, 18), (22, 19), (22, 20), (22, 21), (22, 22), (22, 23), (23, 0), (23, 1)] (by decide +kernel)
set_option maxRecDepth 20000 in
theorem in_wsX4_tried_r4 : ∀ w ∈ wsX4_tried_r4, w ∈ wsL_law := mem_q _ [(34, 21), (27, 19), (27, 20), (27, 21), (27, 22), (27, 23), (28, 0), (34, 22), (34, 23), (35, 0), (35, 1), (28, 10), (28, 2), (28, 3), (28, 4), (16, 12), (16, 0), (16, 1), (16, 2), (15, 12), (15, 13), (15, 14), (28, 15), (28, 6)] (by decide +kernel)
set_option maxRecDepth 20000 in
theorem in_wsX4_tried_r5 : ∀ w ∈ wsX4_tried_r5, w ∈ wsL_law := mem_q _ [(28, 7), (28, 8), (28, 9), (26, 1), (26, 2), (26, 3), (35, 2), (35, 3), (35, 4), (35, 5), (35, 6), (35, 7), (35, 8), (35, 9), (35, 10), (35, 11), (35, 12), (35, 13), (35, 14), (16, 7), (15, 9), (15, 10), (15, 11), (2, 14)] (by decide +kernel)
set_option maxRecDepth 20000 in
theorem in_wsX4_tried_r6 : ∀ w ∈ wsX4_tried_r6, w ∈ wsL_law := mem_q _ [(2, 15), (2, 16), (14, 19), (14, 20), (14, 21), (14, 22), (15, 15), (15, 16), (15, 17), (15, 18), (35, 15), (35, 16), (35, 17), (35, 18), (35, 19), (16, 9), (16, 10), (16, 11), (35, 20), (35, 21), (35, 22), (35, 23), (14, 18), (14, 0)] (by decide +kernel)
set_option maxRecDepth 20000 in
theorem in_wsX4_tried_r7 : ∀ w ∈ wsX4_tried_r7, w ∈ wsL_law := mem_q _ [(14, 1), (14, 2), (14, 3), (14, 4), (14, 5), (14, 6), (36, 0), (36, 1), (36, 2), (36, 3), (22, 11)] (by decide +kernel)
theorem mm_X4_tried : ∀ w ∈ wsX4_tried, w ∈ wsL_law := List.forall_mem_cons.mpr ⟨mem_1 39 7 rfl, List.forall_mem_append.mpr ⟨List.forall_mem_append.mpr ⟨List.forall_mem_append.mpr ⟨List.forall_mem_append.mpr ⟨in_wsX4_tried_r1, List.forall_mem_append.mpr ⟨in_wsX4_tried_r2, List.forall_mem_append.mpr ⟨in_wsX4_tried_r3, List.forall_mem_append.mpr ⟨in_wsX4_tried_r4, List.forall_mem_append.mpr ⟨in_wsX4_tried_r5, List.forall_mem_append.mpr ⟨in_wsX4_tried_r6, in_wsX4_tried_r7⟩⟩⟩⟩⟩⟩, inlX4⟩, inlX0⟩, inlX1⟩⟩
set_option maxRecDepth 20000 in
theorem ggL_law_X4_tried : GoodIn wsL_law wsX4_tried := goodIn_sub mm_X4_tried (by decide +kernel)
set_option maxRecDepth 20000 in
theorem gL_law_X4_tried : GoodIn wsL_law (wsV RL 99 RX4 yX4_tried wsX4_tried) := goodIn_app (goodIn_sub (mem_q _ [(39, 4), (39, 5), (39, 6), (0, 2)] (by decide +kernel)) (by decide +kernel)) ggL_law_X4_tried
set_option maxRecDepth 20000 in
theorem in_wsX5_tried_r1 : ∀ w ∈ wsX5_tried_r1, w ∈ wsL_law := mem_q _ [(6, 4), (4, 12), (5, 9), (36, 20), (36, 8), (36, 9), (0, 5), (36, 10), (17, 23), (18, 0), (18, 1), (18, 2), (18, 3), (18, 4), (36, 15), (36, 16), (36, 17), (36, 18), (36, 19), (36, 21), (36, 22), (36, 23), (37, 0), (37, 1)] (by decide +kernel)
set_option maxRecDepth 20000 in
theorem in_wsX5_tried_r2 : ∀ w ∈ wsX5_tried_r2, w ∈ wsL_law := mem_q _ [(24, 0), (24, 1), (24, 2), (24, 3), (24, 4), (24, 5), (24, 6), (24, 7), (24, 8), (24, 9), (24, 10), (24, 11), (24, 12), (24, 13), (24, 14), (24, 15), (24, 16), (24, 17), (24, 18), (24, 19), (24, 20), (24, 21), (24, 22), (24, 23)] (by decide +kernel)
set_option maxRecDepth 20000 in
theorem in_wsX5_tried_r3 : ∀ w ∈ wsX5_tried_r3, w ∈ wsL_law := mem_q _ [(25, 0), (25, 1), (25, 2), (25, 3), (25, 4), (25, 5), (25, 6), (25, 7), (20, 11), (20, 12), (20, 13), (20, 14), (37, 2), (37, 3), (37, 4), (37, 5), (4, 21), (4, 22), (4, 23), (37, 6), (37, 7), (37, 8), (37, 9), (37, 10)] (by decide +kernel)
set_option maxRecDepth 20000 in
theorem in_wsX5_tried_r4 : ∀ w ∈ wsX5_tried_r4, w ∈ wsL_law := mem_q _ [(37, 11), (37, 12), (37, 13), (5, 0), (37, 14), (37, 15), (37, 16), (37, 17), (21, 6), (21, 7), (21, 8), (21, 9), (20, 15), (20, 16), (20, 17), (20, 18), (37, 18), (37, 19), (37, 20), (37, 21)] (by decide +kernel)
theorem mm_X5_tried : ∀ w ∈ wsX5_tried, w ∈ wsL_law := List.forall_mem_cons.mpr ⟨mem_1 39 11 rfl, List.forall_mem_append.mpr ⟨List.forall_mem_append.mpr ⟨in_wsX5_tried_r1, List.forall_mem_append.mpr ⟨in_wsX5_tried_r2, List.forall_mem_append.mpr ⟨in_wsX5_tried_r3, in_wsX5_tried_r4⟩⟩⟩, inlX5⟩⟩
set_option maxRecDepth 20000 in
theorem ggL_law_X5_tried : GoodIn wsL_law wsX5_tried := goodIn_sub mm_X5_tried (by decide +kernel)
set_option maxRecDepth 20000 in
theorem gL_law_X5_tried : GoodIn wsL_law (wsV RL 103 RX5 yX5_tried wsX5_tried) := goodIn_app (goodIn_sub (mem_q _ [(39, 8), (39, 9), (39, 10), (0, 5)] (by decide +kernel)) (by decide +kernel)) ggL_law_X5_tried
set_option maxRecDepth 20000 in
theorem in_wsX4_rounds_r1 : ∀ w ∈ wsX4_rounds_r1, w ∈ wsL_law := mem_q _ [(0, 19), (0, 18), (16, 13), (16, 14), (16, 15), (0, 17), (16, 16), (1, 16), (16, 17), (16, 18), (16, 19), (16, 20), (2, 4), (1, 17), (1, 18), (1, 22), (2, 17), (2, 18), (2, 19), (2, 20), (2, 21), (2, 22), (2, 23), (3, 0)] (by decide +kernel)
set_option maxRecDepth 20000 in
theorem in_wsX4_rounds_r2 : ∀ w ∈ wsX4_rounds_r2, w ∈ wsL_law := mem_q _ [(16, 21), (16, 22), (16, 23), (1, 21), (17, 0), (2, 8), (17, 1), (2, 9), (38, 2), (38, 3), (38, 4), (38, 5), (1, 23), (23, 7), (22, 12), (22, 13), (22, 14), (22, 15), (22, 16), (22, 17), (22, 18), (22, 19), (22, 20), (22, 21)] (by decide +kernel)
set_option maxRecDepth 20000 in
theorem in_wsX4_rounds_r3 : ∀ w ∈ wsX4_rounds_r3, w ∈ wsL_law := mem_q _ [(22, 22), (22, 23), (23, 0), (23, 1), (34, 21), (27, 19), (27, 20), (27, 21), (27, 22), (27, 23), (28, 0), (38, 6), (28, 12), (28, 13), (28, 14), (28, 15), (28, 6), (28, 7), (28, 8), (28, 9), (26, 1), (26, 2), (26, 3), (28, 10)] (by decide +kernel)
set_option maxRecDepth 20000 in
theorem in_wsX4_rounds_r4 : ∀ w ∈ wsX4_rounds_r4, w ∈ wsL_law := mem_q _ [(28, 2), (28, 3), (28, 4), (16, 12), (16, 0), (16, 1), (16, 2), (15, 12), (15, 13), (15, 14), (23, 6), (13, 20), (13, 21), (13, 22), (34, 22), (34, 23), (35, 0), (35, 1), (35, 2), (35, 3), (35, 4), (35, 5), (35, 6), (35, 7)] (by decide +kernel)
set_option maxRecDepth 20000 in
theorem in_wsX4_rounds_r5 : ∀ w ∈ wsX4_rounds_r5, w ∈ wsL_law := mem_q _ [(35, 8), (35, 9), (35, 10), (35, 11), (35, 12), (35, 13), (35, 14), (16, 7), (15, 9), (15, 10), (15, 11), (2, 14), (2, 15), (2, 2), (2, 16), (14, 19), (14, 20), (14, 21), (14, 22), (15, 15), (15, 16), (15, 17), (15, 18), (35, 15)] (by decide +kernel)
set_option maxRecDepth 20000 in
theorem in_wsX4_rounds_r6 : ∀ w ∈ wsX4_rounds_r6, w ∈ wsL_law := mem_q _ [(35, 16), (35, 17), (35, 18), (35, 19), (16, 9), (16, 10), (16, 11), (35, 20), (35, 21), (35, 22), (35, 23), (14, 18), (14, 0), (14, 1), (14, 2), (14, 3), (14, 4), (14, 5), (14, 6), (36, 0), (36, 1), (36, 2), (36, 3)] (by decide +kernel)
theorem mm_X4_rounds : ∀ w ∈ wsX4_rounds, w ∈ wsL_law := List.forall_mem_cons.mpr ⟨mem_1 39 15 rfl, List.forall_mem_append.mpr ⟨List.forall_mem_append.mpr ⟨List.forall_mem_append.mpr ⟨List.forall_mem_append.mpr ⟨in_wsX4_rounds_r1, List.forall_mem_append.mpr ⟨in_wsX4_rounds_r2, List.forall_mem_append.mpr ⟨in_wsX4_rounds_r3, List.forall_mem_append.mpr ⟨in_wsX4_rounds_r4, List.forall_mem_append.mpr ⟨in_wsX4_rounds_r5, in_wsX4_rounds_r6⟩⟩⟩⟩⟩, inlX4⟩, inlX0⟩, inlX1⟩⟩
set_option maxRecDepth 20000 in
theorem ggL_law_X4_rounds : GoodIn wsL_law wsX4_rounds := goodIn_sub mm_X4_rounds (by decide +kernel)
set_option maxRecDepth 20000 in
theorem gL_law_X4_rounds : GoodIn wsL_law (wsV RL 104 RX4 yX4_rounds wsX4_rounds) := goodIn_app (goodIn_sub (mem_q _ [(39, 12), (39, 13), (39, 14), (0, 2)] (by decide +kernel)) (by decide +kernel)) ggL_law_X4_rounds
set_option maxRecDepth 20000 in
theorem in_wsX5_rounds_r1 : ∀ w ∈ wsX5_rounds_r1, w ∈ wsL_law := mem_q _ [(6, 4), (4, 12), (5, 9), (18, 2), (18, 3), (0, 5), (18, 4), (38, 11), (38, 12), (38, 13), (38, 14), (5, 1), (24, 4), (24, 5), (24, 6), (24, 7), (24, 8), (24, 9), (24, 10), (24, 11), (17, 23), (18, 0), (18, 1), (24, 12)] (by decide +kernel)
set_option maxRecDepth 20000 in
theorem in_wsX5_rounds_r2 : ∀ w ∈ wsX5_rounds_r2, w ∈ wsL_law := mem_q _ [(24, 13), (24, 14), (24, 15), (24, 16), (24, 17), (24, 18), (24, 19), (24, 20), (24, 21), (24, 22), (24, 23), (25, 0), (25, 1), (25, 2), (25, 3), (25, 4), (25, 5), (25, 6), (25, 7), (20, 11), (20, 12), (20, 13), (20, 14), (37, 2)] (by decide +kernel)
set_option maxRecDepth 20000 in
theorem in_wsX5_rounds_r3 : ∀ w ∈ wsX5_rounds_r3, w ∈ wsL_law := mem_q _ [(37, 3), (37, 4), (37, 5), (4, 21), (4, 22), (4, 23), (37, 6), (37, 7), (37, 8), (37, 9), (37, 10), (37, 11), (37, 12), (37, 13), (5, 0), (37, 14), (37, 15), (37, 16), (37, 17), (21, 6), (21, 7), (21, 8), (21, 9), (20, 15)] (by decide +kernel)
set_option maxRecDepth 20000 in
theorem in_wsX5_rounds_r4 : ∀ w ∈ wsX5_rounds_r4, w ∈ wsL_law := mem_q _ [(20, 16), (20, 17), (20, 18), (37, 18), (37, 19), (37, 20), (37, 21)] (by decide +kernel)
theorem mm_X5_rounds : ∀ w ∈ wsX5_rounds, w ∈ wsL_law := List.forall_mem_cons.mpr ⟨mem_1 39 19 rfl, List.forall_mem_append.mpr ⟨List.forall_mem_append.mpr ⟨in_wsX5_rounds_r1, List.forall_mem_append.mpr ⟨in_wsX5_rounds_r2, List.forall_mem_append.mpr ⟨in_wsX5_rounds_r3, in_wsX5_rounds_r4⟩⟩⟩, inlX5⟩⟩
set_option maxRecDepth 20000 in
theorem ggL_law_X5_rounds : GoodIn wsL_law wsX5_rounds := goodIn_sub mm_X5_rounds (by decide +kernel)
set_option maxRecDepth 20000 in
theorem gL_law_X5_rounds : GoodIn wsL_law (wsV RL 107 RX5 yX5_rounds wsX5_rounds) := goodIn_app (goodIn_sub (mem_q _ [(39, 16), (39, 17), (39, 18), (0, 5)] (by decide +kernel)) (by decide +kernel)) ggL_law_X5_rounds
set_option maxRecDepth 20000 in
theorem in_wsX4_alike_r1 : ∀ w ∈ wsX4_alike_r1, w ∈ wsL_law := mem_q _ [(1, 3), (1, 4), (34, 5), (34, 6), (0, 2), (34, 7), (34, 8), (34, 9), (34, 10), (40, 0), (40, 1), (40, 2), (40, 3), (0, 19), (0, 18), (16, 13), (16, 14), (16, 15), (0, 17), (16, 16), (1, 16), (16, 17), (16, 18), (16, 19)] (by decide +kernel)
set_option maxRecDepth 20000 in
theorem in_wsX4_alike_r2 : ∀ w ∈ wsX4_alike_r2, w ∈ wsL_law := mem_q _ [(16, 20), (2, 4), (1, 17), (1, 18), (1, 22), (2, 17), (2, 18), (2, 19), (2, 20), (2, 21), (2, 22), (2, 23), (3, 0), (16, 21), (16, 22), (16, 23), (1, 21), (17, 0), (2, 8), (17, 1), (2, 9), (34, 15), (34, 16), (34, 17)] (by decide +kernel)
set_option maxRecDepth 20000 in
theorem in_wsX4_alike_r3 : ∀ w ∈ wsX4_alike_r3, w ∈ wsL_law := mem_q _ [(34, 18), (3, 1), (34, 19), (2, 0), (2, 1), (2, 2), (2, 3), (34, 20), (23, 3), (23, 4), (23, 5), (23, 6), (13, 20), (13, 21), (13, 22), (23, 7), (22, 12), (22, 13), (22, 14), (22, 15), (22, 16), (22, 17), (22, 18), (22, 19)] (by decide +kernel)
set_option maxRecDepth 20000 in
theorem in_wsX4_alike_r4 : ∀ w ∈ wsX4_alike_r4, w ∈ wsL_law := mem_q _ [(22, 20), (22, 21), (22, 22), (22, 23), (23, 0), (23, 1), (34, 21), (27, 19), (27, 20), (27, 21), (27, 22), (27, 23), (28, 0), (34, 22), (34, 23), (35, 0), (35, 1), (28, 10), (28, 2), (28, 3), (28, 4), (16, 12), (16, 0), (16, 1)] (by decide +kernel)
set_option maxRecDepth 20000 in
theorem in_wsX4_alike_r5 : ∀ w ∈ wsX4_alike_r5, w ∈ wsL_law := mem_q _ [(16, 2), (15, 12), (15, 13), (15, 14), (28, 15), (28, 6), (28, 7), (28, 8), (28, 9), (26, 1), (26, 2), (26, 3), (35, 2), (35, 3), (35, 4), (35, 5), (35, 6), (35, 7), (35, 8), (35, 9), (35, 10), (35, 11), (35, 12), (35, 13)] (by decide +kernel)
set_option maxRecDepth 20000 in
theorem in_wsX4_alike_r6 : ∀ w ∈ wsX4_alike_r6, w ∈ wsL_law := mem_q _ [(35, 14), (16, 7), (15, 9), (15, 10), (15, 11), (2, 14), (2, 15), (2, 16), (14, 19), (14, 20), (14, 21), (14, 22), (15, 15), (15, 16), (15, 17), (15, 18), (35, 15), (35, 16), (35, 17), (35, 18), (35, 19), (16, 9), (16, 10), (16, 11)] (by decide +kernel)
set_option maxRecDepth 20000 in
theorem in_wsX4_alike_r7 : ∀ w ∈ wsX4_alike_r7, w ∈ wsL_law := mem_q _ [(35, 20), (35, 21), (35, 22), (35, 23), (14, 18), (14, 0), (14, 1), (14, 2), (14, 3), (14, 4), (14, 5), (14, 6), (36, 0), (36, 1), (36, 2), (36, 3), (23, 2), (31, 12), (31, 13), (31, 14), (1, 2), (31, 15), (4, 5), (31, 16)] (by decide +kernel)
set_option maxRecDepth 20000 in
theorem in_wsX4_alike_r8 : ∀ w ∈ wsX4_alike_r8, w ∈ wsL_law := mem_q _ [(31, 17), (31, 18), (3, 3), (3, 4), (3, 5), (31, 19), (23, 13), (23, 14), (23, 15), (31, 20), (31, 21), (31, 22), (31, 23), (4, 6), (32, 0), (32, 1), (32, 2), (32, 3), (32, 4), (4, 7), (32, 5), (32, 6), (32, 7), (32, 8)] (by decide +kernel)
set_option maxRecDepth 20000 in
theorem in_wsX4_alike_r9 : ∀ w ∈ wsX4_alike_r9, w ∈ wsL_law := mem_q _ [(32, 9), (32, 10), (32, 11), (32, 12), (32, 13), (32, 14), (32, 15), (32, 16), (32, 17), (32, 18), (4, 3), (4, 4), (32, 19), (32, 20), (32, 21), (32, 22), (40, 4), (40, 5), (40, 6), (40, 7)] (by decide +kernel)
theorem mm_X4_alike : ∀ w ∈ wsX4_alike, w ∈ wsL_law := List.forall_mem_cons.mpr ⟨mem_1 39 23 rfl, List.forall_mem_append.mpr ⟨List.forall_mem_append.mpr ⟨List.forall_mem_append.mpr ⟨List.forall_mem_append.mpr ⟨List.forall_mem_append.mpr ⟨in_wsX4_alike_r1, List.forall_mem_append.mpr ⟨in_wsX4_alike_r2, List.forall_mem_append.mpr ⟨in_wsX4_alike_r3, List.forall_mem_append.mpr ⟨in_wsX4_alike_r4, List.forall_mem_append.mpr ⟨in_wsX4_alike_r5, List.forall_mem_append.mpr ⟨in_wsX4_alike_r6, List.forall_mem_append.mpr ⟨in_wsX4_alike_r7, List.forall_mem_append.mpr ⟨in_wsX4_alike_r8, in_wsX4_alike_r9⟩⟩⟩⟩⟩⟩⟩⟩, inlX4⟩, inlX0⟩, inlX1⟩, inlX2⟩⟩
set_option maxRecDepth 20000 in
theorem ggL_law_X4_alike : GoodIn wsL_law wsX4_alike := goodIn_sub mm_X4_alike (by decide +kernel)
set_option maxRecDepth 20000 in
theorem gL_law_X4_alike : GoodIn wsL_law (wsV RL 108 RX4 yX4_alike wsX4_alike) := goodIn_app (goodIn_sub (mem_q _ [(39, 20), (39, 21), (39, 22), (0, 2)] (by decide +kernel)) (by decide +kernel)) ggL_law_X4_alike
set_option maxRecDepth 20000 in
theorem in_wsX5_alike_r1 : ∀ w ∈ wsX5_alike_r1, w ∈ wsL_law := mem_q _ [(6, 4), (4, 12), (5, 9), (40, 12), (36, 8), (36, 9), (0, 5), (36, 10), (17, 23), (18, 0), (18, 1), (18, 2), (18, 3), (18, 4), (36, 15), (36, 16), (36, 17), (36, 18), (36, 19), (36, 20), (36, 21), (36, 22), (36, 23), (37, 0)] (by decide +kernel)
set_option maxRecDepth 20000 in
theorem in_wsX5_alike_r2 : ∀ w ∈ wsX5_alike_r2, w ∈ wsL_law := mem_q _ [(37, 1), (24, 0), (24, 1), (24, 2), (24, 3), (24, 4), (24, 5), (24, 6), (24, 7), (24, 8), (24, 9), (24, 10), (24, 11), (24, 12), (24, 13), (24, 14), (24, 15), (24, 16), (24, 17), (24, 18), (24, 19), (24, 20), (24, 21), (24, 22)] (by decide +kernel)
set_option maxRecDepth 20000 in
theorem in_wsX5_alike_r3 : ∀ w ∈ wsX5_alike_r3, w ∈ wsL_law := mem_q _ [(24, 23), (25, 0), (25, 1), (25, 2), (25, 3), (25, 4), (25, 5), (25, 6), (25, 7), (20, 11), (20, 12), (20, 13), (20, 14), (37, 2), (37, 3), (37, 4), (37, 5), (4, 21), (4, 22), (4, 23), (37, 6), (37, 7), (37, 8), (37, 9)] (by decide +kernel)
set_option maxRecDepth 20000 in
theorem in_wsX5_alike_r4 : ∀ w ∈ wsX5_alike_r4, w ∈ wsL_law := mem_q _ [(37, 10), (37, 11), (37, 12), (37, 13), (5, 0), (37, 14), (37, 15), (37, 16), (37, 17), (21, 6), (21, 7), (21, 8), (21, 9), (20, 15), (20, 16), (20, 17), (20, 18), (37, 18), (37, 19), (37, 20), (37, 21), (40, 13), (40, 14), (40, 15)] (by decide +kernel)
set_option maxRecDepth 20000 in
theorem in_wsX5_alike_r5 : ∀ w ∈ wsX5_alike_r5, w ∈ wsL_law := mem_q _ [(40, 16), (33, 8), (40, 17), (5, 7), (5, 5), (33, 4), (33, 5), (33, 6), (33, 7), (33, 3), (5, 4), (5, 6), (27, 2), (27, 3), (27, 4), (27, 5), (33, 9), (33, 10), (33, 11), (33, 12), (33, 13), (33, 14), (33, 15), (33, 16)] (by decide +kernel)
set_option maxRecDepth 20000 in
theorem in_wsX5_alike_r6 : ∀ w ∈ wsX5_alike_r6, w ∈ wsL_law := mem_q _ [(5, 2), (5, 3), (40, 18), (40, 19), (40, 20), (40, 21)] (by decide +kernel)
theorem mm_X5_alike : ∀ w ∈ wsX5_alike, w ∈ wsL_law := List.forall_mem_cons.mpr ⟨mem_1 40 11 rfl, List.forall_mem_append.mpr ⟨List.forall_mem_append.mpr ⟨in_wsX5_alike_r1, List.forall_mem_append.mpr ⟨in_wsX5_alike_r2, List.forall_mem_append.mpr ⟨in_wsX5_alike_r3, List.forall_mem_append.mpr ⟨in_wsX5_alike_r4, List.forall_mem_append.mpr ⟨in_wsX5_alike_r5, in_wsX5_alike_r6⟩⟩⟩⟩⟩, inlX5⟩⟩
set_option maxRecDepth 20000 in
theorem ggL_law_X5_alike : GoodIn wsL_law wsX5_alike := goodIn_sub mm_X5_alike (by decide +kernel)
set_option maxRecDepth 20000 in
theorem gL_law_X5_alike : GoodIn wsL_law (wsV RL 111 RX5 yX5_alike wsX5_alike) := goodIn_app (goodIn_sub (mem_q _ [(40, 8), (40, 9), (40, 10), (0, 5)] (by decide +kernel)) (by decide +kernel)) ggL_law_X5_alike
set_option maxRecDepth 20000 in
theorem in_wsX4_likeImage_r1 : ∀ w ∈ wsX4_likeImage_r1, w ∈ wsL_law := mem_q _ [(1, 3), (0, 18), (1, 4), (41, 2), (41, 3), (41, 4), (0, 2), (41, 5), (1, 7), (1, 5), (31, 12), (31, 13), (31, 14), (1, 2), (31, 15), (4, 5), (31, 16), (31, 17), (31, 18), (3, 3), (3, 4), (3, 5), (31, 19), (23, 13)] (by decide +kernel)
set_option maxRecDepth 20000 in
theorem in_wsX4_likeImage_r2 : ∀ w ∈ wsX4_likeImage_r2, w ∈ wsL_law := mem_q _ [(23, 14), (0, 17), (23, 15), (2, 4), (31, 20), (31, 21), (31, 22), (31, 23), (4, 6), (32, 0), (32, 1), (32, 2), (32, 3), (32, 4), (4, 7), (32, 5), (32, 6), (32, 7), (32, 8), (32, 9), (16, 0), (16, 1), (16, 2), (32, 10)] (by decide +kernel)
set_option maxRecDepth 20000 in
theorem in_wsX4_likeImage_r3 : ∀ w ∈ wsX4_likeImage_r3, w ∈ wsL_law := mem_q _ [(32, 11), (32, 12), (32, 13), (32, 14), (26, 1), (26, 2), (26, 3), (1, 16), (32, 15), (32, 16), (32, 17), (32, 18), (4, 3), (4, 4), (32, 19), (32, 20), (32, 21), (32, 22), (40, 4), (40, 5), (40, 6), (40, 7)] (by decide +kernel)
theorem mm_X4_likeImage : ∀ w ∈ wsX4_likeImage, w ∈ wsL_law := List.forall_mem_cons.mpr ⟨mem_1 41 1 rfl, List.forall_mem_append.mpr ⟨List.forall_mem_append.mpr ⟨List.forall_mem_append.mpr ⟨List.forall_mem_append.mpr ⟨in_wsX4_likeImage_r1, List.forall_mem_append.mpr ⟨in_wsX4_likeImage_r2, in_wsX4_likeImage_r3⟩⟩, inlX4⟩, inlX2⟩, inlX0⟩⟩
set_option maxRecDepth 20000 in
theorem ggL_law_X4_likeImage : GoodIn wsL_law wsX4_likeImage := goodIn_sub mm_X4_likeImage (by decide +kernel)
set_option maxRecDepth 20000 in
theorem gL_law_X4_likeImage : GoodIn wsL_law (wsV RL 112 RX4 yX4_likeImage wsX4_likeImage) := goodIn_app (goodIn_sub (mem_q _ [(40, 22), (40, 23), (41, 0), (0, 2)] (by decide +kernel)) (by decide +kernel)) ggL_law_X4_likeImage
set_option maxRecDepth 20000 in
theorem in_wsX5_likeImage_r1 : ∀ w ∈ wsX5_likeImage_r1, w ∈ wsL_law := mem_q _ [(6, 4), (5, 10), (4, 12), (5, 9), (5, 11), (17, 23), (18, 0), (0, 5), (18, 1), (40, 13), (40, 14), (40, 15), (40, 16), (33, 8), (40, 17), (5, 7), (5, 5), (33, 4), (33, 5), (33, 6), (33, 7), (33, 3), (5, 4), (5, 6)] (by decide +kernel)
set_option maxRecDepth 20000 in
theorem in_wsX5_likeImage_r2 : ∀ w ∈ wsX5_likeImage_r2, w ∈ wsL_law := mem_q _ [(27, 2), (27, 3), (27, 4), (27, 5), (33, 9), (33, 10), (33, 11), (33, 12), (33, 13), (33, 14), (33, 15), (33, 16), (5, 2), (5, 3), (24, 16), (24, 17), (24, 18), (24, 19), (25, 4), (25, 5), (25, 6), (25, 7), (18, 2), (18, 3)] (by decide +kernel)
