set_option maxRecDepth 20000 in
theorem gL_law_X4_rootAt : GoodIn wsL_law (wsV RL 52 RX4 yX4_rootAt wsX4_rootAt) := goodIn_app (goodIn_sub (mem_q _ [(27, 6), (27, 7), (27, 8), (0, 2)] (by decide +kernel)) (by decide +kernel)) ggL_law_X4_rootAt
set_option maxRecDepth 20000 in
theorem in_lit_43 : ∀ w ∈ ([.fieldLink RX5 1 "CombinatorRingModel" "thrown" "I", .methodLink RX5 268 yX5_isRoot, .instanceMethod yX5_isRoot, .selects RX5 yX5_isRoot yX5_isRoot, .initialized RX5, .code yX5_isRoot cX5_isRoot 2 (some .boolean), .fieldLink RX5 7 "CombinatorRingModel" "now" "[I", .methodLink RX5 89 yX5_within, .static yX5_within, .code yX5_within cX5_within 3 (some .boolean)] : List Cond), w ∈ wsL_law := mem_q _ [(6, 4), (27, 2), (27, 3), (27, 4), (0, 5), (27, 5), (4, 12), (17, 23), (18, 0), (18, 1)] (by decide +kernel)
theorem mm_X5_rootAt : ∀ w ∈ wsX5_rootAt, w ∈ wsL_law := List.forall_mem_cons.mpr ⟨mem_1 27 13 rfl, List.forall_mem_append.mpr ⟨in_lit_43, inlX5⟩⟩
set_option maxRecDepth 20000 in
theorem ggL_law_X5_rootAt : GoodIn wsL_law wsX5_rootAt := goodIn_sub mm_X5_rootAt (by decide +kernel)
set_option maxRecDepth 20000 in
theorem gL_law_X5_rootAt : GoodIn wsL_law (wsV RL 55 RX5 yX5_rootAt wsX5_rootAt) := goodIn_app (goodIn_sub (mem_q _ [(27, 10), (27, 11), (27, 12), (0, 5)] (by decide +kernel)) (by decide +kernel)) ggL_law_X5_rootAt
set_option maxRecDepth 20000 in
theorem in_wsX4_pair_r1 : ∀ w ∈ wsX4_pair_r1, w ∈ wsL_law := mem_q _ [(0, 18), (27, 18), (27, 19), (27, 20), (1, 21), (27, 21), (22, 15), (22, 16), (22, 17), (22, 18), (2, 8), (2, 9), (22, 19), (22, 20), (22, 21), (22, 22), (22, 23), (23, 0), (23, 1), (27, 22), (27, 23), (28, 0), (28, 1), (28, 2)] (by decide +kernel)
set_option maxRecDepth 20000 in
theorem in_wsX4_pair_r2 : ∀ w ∈ wsX4_pair_r2, w ∈ wsL_law := mem_q _ [(28, 3), (0, 17), (28, 4), (16, 12), (16, 0), (16, 1), (16, 2), (2, 4), (15, 12), (15, 13), (15, 14), (28, 5), (28, 6), (28, 7), (28, 8), (28, 9), (26, 1), (26, 2), (26, 3), (1, 16), (28, 10), (28, 11), (28, 12), (28, 13)] (by decide +kernel)
set_option maxRecDepth 20000 in
theorem in_wsX4_pair_r3 : ∀ w ∈ wsX4_pair_r3, w ∈ wsL_law := mem_q _ [(28, 14), (28, 15), (23, 6), (13, 20), (13, 21), (13, 22), (2, 18), (2, 17)] (by decide +kernel)
theorem mm_X4_pair : ∀ w ∈ wsX4_pair, w ∈ wsL_law := List.forall_mem_cons.mpr ⟨mem_1 27 17 rfl, List.forall_mem_append.mpr ⟨List.forall_mem_append.mpr ⟨List.forall_mem_append.mpr ⟨List.forall_mem_append.mpr ⟨in_wsX4_pair_r1, List.forall_mem_append.mpr ⟨in_wsX4_pair_r2, in_wsX4_pair_r3⟩⟩, inlX4⟩, inlX0⟩, inlX1⟩⟩
set_option maxRecDepth 20000 in
theorem ggL_law_X4_pair : GoodIn wsL_law wsX4_pair := goodIn_sub mm_X4_pair (by decide +kernel)
set_option maxRecDepth 20000 in
theorem gL_law_X4_pair : GoodIn wsL_law (wsV RL 56 RX4 yX4_pair wsX4_pair) := goodIn_app (goodIn_sub (mem_q _ [(27, 14), (27, 15), (27, 16), (0, 2)] (by decide +kernel)) (by decide +kernel)) ggL_law_X4_pair
set_option maxRecDepth 20000 in
theorem in_wsX5_pair_r1 : ∀ w ∈ wsX5_pair_r1, w ∈ wsL_law := mem_q _ [(6, 4), (17, 23), (18, 0), (0, 5), (18, 1), (24, 4), (24, 5), (24, 6), (24, 7), (24, 8), (24, 9), (24, 10), (24, 11), (4, 12), (24, 12), (24, 13), (24, 14), (24, 15), (24, 16), (24, 17), (24, 18), (24, 19), (25, 0), (25, 1)] (by decide +kernel)
set_option maxRecDepth 20000 in
theorem in_wsX5_pair_r2 : ∀ w ∈ wsX5_pair_r2, w ∈ wsL_law := mem_q _ [(25, 2), (25, 3), (25, 4), (25, 5), (25, 6), (25, 7), (24, 20), (24, 21), (24, 22), (24, 23), (20, 11), (20, 12), (20, 13), (20, 14)] (by decide +kernel)
theorem mm_X5_pair : ∀ w ∈ wsX5_pair, w ∈ wsL_law := List.forall_mem_cons.mpr ⟨mem_1 28 19 rfl, List.forall_mem_append.mpr ⟨List.forall_mem_append.mpr ⟨in_wsX5_pair_r1, in_wsX5_pair_r2⟩, inlX5⟩⟩
set_option maxRecDepth 20000 in
theorem ggL_law_X5_pair : GoodIn wsL_law wsX5_pair := goodIn_sub mm_X5_pair (by decide +kernel)
set_option maxRecDepth 20000 in
theorem gL_law_X5_pair : GoodIn wsL_law (wsV RL 59 RX5 yX5_pair wsX5_pair) := goodIn_app (goodIn_sub (mem_q _ [(28, 16), (28, 17), (28, 18), (0, 5)] (by decide +kernel)) (by decide +kernel)) ggL_law_X5_pair
set_option maxRecDepth 20000 in
theorem in_lit_49 : ∀ w ∈ ([.fieldLink RX4 18 "CombinatorRing" "current" "LCombinatorRing$Net;", .methodLink RX4 153 yX0_givenNext, .instanceMethod yX0_givenNext, .selects RX0 yX0_givenNext yX0_givenNext, .initialized RX0, .code yX0_givenNext cX0_givenNext 2 (some .int), .fieldLink RX0 55 "CombinatorRing$Net" "memory" "I", .fieldLink RX0 59 "CombinatorRing$Net" "nodes" "I", .fieldLink RX0 68 "CombinatorRing$Net" "freedCount" "I", .fieldLink RX0 15 "CombinatorRing$Net" "freed" "[I", .fieldLink RX0 71 "CombinatorRing$Net" "given" "I"] : List Cond), w ∈ wsL_law := mem_q _ [(0, 18), (29, 0), (14, 4), (14, 5), (0, 17), (14, 6), (2, 17), (2, 18), (2, 21), (1, 17), (2, 22)] (by decide +kernel)
theorem mm_X4_next : ∀ w ∈ wsX4_next, w ∈ wsL_law := List.forall_mem_cons.mpr ⟨mem_1 28 23 rfl, List.forall_mem_append.mpr ⟨List.forall_mem_append.mpr ⟨in_lit_49, inlX4⟩, inlX0⟩⟩
set_option maxRecDepth 20000 in
theorem ggL_law_X4_next : GoodIn wsL_law wsX4_next := goodIn_sub mm_X4_next (by decide +kernel)
set_option maxRecDepth 20000 in
theorem gL_law_X4_next : GoodIn wsL_law (wsV RL 60 RX4 yX4_next wsX4_next) := goodIn_app (goodIn_sub (mem_q _ [(28, 20), (28, 21), (28, 22), (0, 2)] (by decide +kernel)) (by decide +kernel)) ggL_law_X4_next
set_option maxRecDepth 20000 in
theorem in_lit_50 : ∀ w ∈ ([.fieldLink RX5 1 "CombinatorRingModel" "thrown" "I", .fieldLink RX5 7 "CombinatorRingModel" "now" "[I"] : List Cond), w ∈ wsL_law := mem_q _ [(6, 4), (4, 12)] (by decide +kernel)
theorem mm_X5_next : ∀ w ∈ wsX5_next, w ∈ wsL_law := List.forall_mem_cons.mpr ⟨mem_1 29 4 rfl, List.forall_mem_append.mpr ⟨in_lit_50, inlX5⟩⟩
set_option maxRecDepth 20000 in
theorem ggL_law_X5_next : GoodIn wsL_law wsX5_next := goodIn_sub mm_X5_next (by decide +kernel)
set_option maxRecDepth 20000 in
theorem gL_law_X5_next : GoodIn wsL_law (wsV RL 63 RX5 yX5_next wsX5_next) := goodIn_app (goodIn_sub (mem_q _ [(29, 1), (29, 2), (29, 3), (0, 5)] (by decide +kernel)) (by decide +kernel)) ggL_law_X5_next
set_option maxRecDepth 20000 in
theorem in_wsL_number_r1 : ∀ w ∈ wsL_number_r1, w ∈ wsL_law := mem_q _ [(29, 9), (29, 10), (29, 11), (29, 12), (0, 2), (29, 13), (29, 14), (29, 15), (0, 18), (26, 21), (23, 13), (23, 14), (0, 17), (23, 15), (2, 4), (29, 16), (29, 17), (29, 18), (29, 19), (16, 12), (16, 0), (16, 1), (16, 2), (29, 20)] (by decide +kernel)
set_option maxRecDepth 20000 in
theorem in_wsL_number_r2 : ∀ w ∈ wsL_number_r2, w ∈ wsL_law := mem_q _ [(29, 21), (29, 22), (29, 23), (15, 12), (15, 13), (15, 14), (28, 9), (26, 1), (26, 2), (26, 3), (1, 16)] (by decide +kernel)
theorem mm_L_number : ∀ w ∈ wsL_numberN, w ∈ wsL_law := List.forall_mem_cons.mpr ⟨mem_1 29 8 rfl, List.forall_mem_append.mpr ⟨List.forall_mem_append.mpr ⟨List.forall_mem_append.mpr ⟨List.forall_mem_append.mpr ⟨in_wsL_number_r1, in_wsL_number_r2⟩, inlX4⟩, inlX0⟩, in_nsG⟩⟩
set_option maxRecDepth 20000 in
theorem ggL_law_L_number : GoodIn wsL_law wsL_numberN := goodIn_sub mm_L_number (by decide +kernel)
set_option maxRecDepth 20000 in
theorem gL_law_L_number : GoodIn wsL_law (va_wsS RL 64 yL_number wsL_numberN) := goodIn_app (goodIn_sub (mem_q _ [(29, 5), (29, 6), (29, 7)] (by decide +kernel)) (by decide +kernel)) ggL_law_L_number
set_option maxRecDepth 20000 in
theorem in_wsX5_number__r1 : ∀ w ∈ wsX5_number__r1, w ∈ wsL_law := mem_q _ [(6, 4), (27, 2), (27, 3), (27, 4), (0, 5), (27, 5), (4, 12), (17, 23), (18, 0), (18, 1), (30, 4), (30, 5), (30, 6), (30, 7), (30, 8), (30, 9), (30, 10), (30, 11), (24, 16), (24, 17), (24, 18), (24, 19), (25, 4), (25, 5)] (by decide +kernel)
set_option maxRecDepth 20000 in
theorem in_wsX5_number__r2 : ∀ w ∈ wsX5_number__r2, w ∈ wsL_law := mem_q _ [(25, 6), (25, 7)] (by decide +kernel)
theorem mm_X5_number_ : ∀ w ∈ wsX5_number_, w ∈ wsL_law := List.forall_mem_cons.mpr ⟨mem_1 30 3 rfl, List.forall_mem_append.mpr ⟨List.forall_mem_append.mpr ⟨in_wsX5_number__r1, in_wsX5_number__r2⟩, inlX5⟩⟩
set_option maxRecDepth 20000 in
theorem ggL_law_X5_number_ : GoodIn wsL_law wsX5_number_ := goodIn_sub mm_X5_number_ (by decide +kernel)
set_option maxRecDepth 20000 in
theorem gL_law_X5_number_ : GoodIn wsL_law (wsV RL 69 RX5 yX5_number_ wsX5_number_) := goodIn_app (goodIn_sub (mem_q _ [(30, 0), (30, 1), (30, 2), (0, 5)] (by decide +kernel)) (by decide +kernel)) ggL_law_X5_number_
set_option maxRecDepth 20000 in
theorem in_lit_55 : ∀ w ∈ ([.fieldLink RX5 1 "CombinatorRingModel" "thrown" "I"] : List Cond), w ∈ wsL_law := mem_q _ [(6, 4)] (by decide +kernel)
theorem mm_X5_thrown : ∀ w ∈ wsX5_thrown, w ∈ wsL_law := List.forall_mem_cons.mpr ⟨mem_1 30 15 rfl, List.forall_mem_append.mpr ⟨in_lit_55, inlX5⟩⟩
set_option maxRecDepth 20000 in
theorem ggL_law_X5_thrown : GoodIn wsL_law wsX5_thrown := goodIn_sub mm_X5_thrown (by decide +kernel)
set_option maxRecDepth 20000 in
theorem gL_law_X5_thrown : GoodIn wsL_law (wsV RL 70 RX5 yX5_thrown wsX5_thrown) := goodIn_app (goodIn_sub (mem_q _ [(30, 12), (30, 13), (30, 14), (0, 5)] (by decide +kernel)) (by decide +kernel)) ggL_law_X5_thrown
set_option maxRecDepth 20000 in
theorem in_wsL_list_r1 : ∀ w ∈ wsL_list_r1, w ∈ wsL_law := mem_q _ [(29, 9), (30, 19), (30, 20), (30, 21), (0, 2), (30, 22), (29, 14), (29, 15), (0, 18), (26, 21), (23, 13), (23, 14), (0, 17), (23, 15), (2, 4), (30, 23), (31, 0), (31, 1), (31, 2), (16, 12), (16, 0), (16, 1), (16, 2), (29, 20)] (by decide +kernel)
set_option maxRecDepth 20000 in
theorem in_wsL_list_r2 : ∀ w ∈ wsL_list_r2, w ∈ wsL_law := mem_q _ [(29, 21), (29, 22), (29, 23), (15, 12), (15, 13), (15, 14), (28, 9), (26, 1), (26, 2), (26, 3), (1, 16), (31, 3), (29, 17), (29, 18), (29, 19)] (by decide +kernel)
theorem mm_L_list : ∀ w ∈ wsL_listN, w ∈ wsL_law := List.forall_mem_cons.mpr ⟨mem_1 30 18 rfl, List.forall_mem_append.mpr ⟨List.forall_mem_append.mpr ⟨List.forall_mem_append.mpr ⟨List.forall_mem_append.mpr ⟨in_wsL_list_r1, in_wsL_list_r2⟩, inlX4⟩, inlX0⟩, in_nsG⟩⟩
set_option maxRecDepth 20000 in
theorem ggL_law_L_list : GoodIn wsL_law wsL_listN := goodIn_sub mm_L_list (by decide +kernel)
set_option maxRecDepth 20000 in
theorem gL_law_L_list : GoodIn wsL_law (va_wsS RL 74 yL_list wsL_listN) := goodIn_app (goodIn_sub (mem_q _ [(30, 16), (30, 17), (29, 7)] (by decide +kernel)) (by decide +kernel)) ggL_law_L_list
set_option maxRecDepth 20000 in
theorem in_wsX5_list__r1 : ∀ w ∈ wsX5_list__r1, w ∈ wsL_law := mem_q _ [(6, 4), (27, 2), (27, 3), (27, 4), (0, 5), (27, 5), (4, 12), (17, 23), (18, 0), (18, 1), (30, 8), (30, 9), (30, 10), (30, 11), (24, 16), (24, 17), (24, 18), (24, 19), (25, 4), (25, 5), (25, 6), (25, 7), (30, 4), (30, 5)] (by decide +kernel)
set_option maxRecDepth 20000 in
theorem in_wsX5_list__r2 : ∀ w ∈ wsX5_list__r2, w ∈ wsL_law := mem_q _ [(30, 6), (30, 7)] (by decide +kernel)
theorem mm_X5_list_ : ∀ w ∈ wsX5_list_, w ∈ wsL_law := List.forall_mem_cons.mpr ⟨mem_1 31 7 rfl, List.forall_mem_append.mpr ⟨List.forall_mem_append.mpr ⟨in_wsX5_list__r1, in_wsX5_list__r2⟩, inlX5⟩⟩
set_option maxRecDepth 20000 in
theorem ggL_law_X5_list_ : GoodIn wsL_law wsX5_list_ := goodIn_sub mm_X5_list_ (by decide +kernel)
set_option maxRecDepth 20000 in
theorem gL_law_X5_list_ : GoodIn wsL_law (wsV RL 77 RX5 yX5_list_ wsX5_list_) := goodIn_app (goodIn_sub (mem_q _ [(31, 4), (31, 5), (31, 6), (0, 5)] (by decide +kernel)) (by decide +kernel)) ggL_law_X5_list_
set_option maxRecDepth 20000 in
theorem in_wsX4_seen_r1 : ∀ w ∈ wsX4_seen_r1, w ∈ wsL_law := mem_q _ [(1, 3), (0, 18), (31, 12), (31, 13), (31, 14), (1, 2), (31, 15), (4, 5), (31, 16), (31, 17), (31, 18), (3, 3), (3, 4), (3, 5), (31, 19), (23, 13), (23, 14), (0, 17), (23, 15), (2, 4), (31, 20), (31, 21), (31, 22), (31, 23)] (by decide +kernel)
set_option maxRecDepth 20000 in
theorem in_wsX4_seen_r2 : ∀ w ∈ wsX4_seen_r2, w ∈ wsL_law := mem_q _ [(4, 6), (32, 0), (32, 1), (32, 2), (32, 3), (32, 4), (4, 7), (32, 5), (32, 6), (32, 7), (32, 8), (32, 9), (16, 0), (16, 1), (16, 2), (32, 10), (32, 11), (32, 12), (32, 13), (32, 14), (26, 1), (26, 2), (26, 3), (1, 16)] (by decide +kernel)
set_option maxRecDepth 20000 in
theorem in_wsX4_seen_r3 : ∀ w ∈ wsX4_seen_r3, w ∈ wsL_law := mem_q _ [(32, 15), (32, 16), (32, 17), (32, 18), (4, 3), (4, 4), (32, 19), (32, 20), (32, 21), (32, 22)] (by decide +kernel)
theorem mm_X4_seen : ∀ w ∈ wsX4_seen, w ∈ wsL_law := List.forall_mem_cons.mpr ⟨mem_1 31 11 rfl, List.forall_mem_append.mpr ⟨List.forall_mem_append.mpr ⟨List.forall_mem_append.mpr ⟨List.forall_mem_append.mpr ⟨in_wsX4_seen_r1, List.forall_mem_append.mpr ⟨in_wsX4_seen_r2, in_wsX4_seen_r3⟩⟩, inlX4⟩, inlX2⟩, inlX0⟩⟩
set_option maxRecDepth 20000 in
theorem ggL_law_X4_seen : GoodIn wsL_law wsX4_seen := goodIn_sub mm_X4_seen (by decide +kernel)
set_option maxRecDepth 20000 in
theorem gL_law_X4_seen : GoodIn wsL_law (wsV RL 78 RX4 yX4_seen wsX4_seen) := goodIn_app (goodIn_sub (mem_q _ [(31, 8), (31, 9), (31, 10), (0, 2)] (by decide +kernel)) (by decide +kernel)) ggL_law_X4_seen
set_option maxRecDepth 20000 in
theorem in_wsX5_seen_r1 : ∀ w ∈ wsX5_seen_r1, w ∈ wsL_law := mem_q _ [(6, 4), (33, 3), (33, 4), (33, 5), (33, 6), (0, 5), (33, 7), (33, 8), (5, 4), (5, 6), (27, 2), (27, 3), (27, 4), (27, 5), (4, 12), (17, 23), (18, 0), (18, 1), (33, 9), (33, 10), (33, 11), (33, 12), (5, 5), (33, 13)] (by decide +kernel)
set_option maxRecDepth 20000 in
theorem in_wsX5_seen_r2 : ∀ w ∈ wsX5_seen_r2, w ∈ wsL_law := mem_q _ [(33, 14), (33, 15), (33, 16), (5, 2), (5, 3), (24, 16), (24, 17), (24, 18), (24, 19), (25, 4), (25, 5), (25, 6), (25, 7)] (by decide +kernel)
theorem mm_X5_seen : ∀ w ∈ wsX5_seen, w ∈ wsL_law := List.forall_mem_cons.mpr ⟨mem_1 33 2 rfl, List.forall_mem_append.mpr ⟨List.forall_mem_append.mpr ⟨in_wsX5_seen_r1, in_wsX5_seen_r2⟩, inlX5⟩⟩
set_option maxRecDepth 20000 in
theorem ggL_law_X5_seen : GoodIn wsL_law wsX5_seen := goodIn_sub mm_X5_seen (by decide +kernel)
set_option maxRecDepth 20000 in
theorem gL_law_X5_seen : GoodIn wsL_law (wsV RL 81 RX5 yX5_seen wsX5_seen) := goodIn_app (goodIn_sub (mem_q _ [(32, 23), (33, 0), (33, 1), (0, 5)] (by decide +kernel)) (by decide +kernel)) ggL_law_X5_seen
set_option maxRecDepth 20000 in
theorem in_wsX4_met_r1 : ∀ w ∈ wsX4_met_r1, w ∈ wsL_law := mem_q _ [(1, 3), (0, 18), (31, 12), (31, 13), (31, 14), (1, 2), (31, 15), (4, 5), (31, 16), (31, 17), (31, 18), (3, 3), (3, 4), (3, 5), (31, 19), (23, 13), (23, 14), (0, 17), (23, 15), (2, 4), (31, 20), (31, 21), (31, 22), (31, 23)] (by decide +kernel)
set_option maxRecDepth 20000 in
theorem in_wsX4_met_r2 : ∀ w ∈ wsX4_met_r2, w ∈ wsL_law := mem_q _ [(4, 6), (32, 0), (32, 1), (32, 2), (32, 3), (32, 4), (4, 7), (32, 5), (32, 6), (32, 7), (32, 8), (32, 9), (16, 0), (16, 1), (16, 2), (32, 10), (32, 11), (32, 12), (32, 13), (32, 14), (26, 1), (26, 2), (26, 3), (1, 16)] (by decide +kernel)
set_option maxRecDepth 20000 in
theorem in_wsX4_met_r3 : ∀ w ∈ wsX4_met_r3, w ∈ wsL_law := mem_q _ [(32, 15), (32, 16), (32, 17), (32, 18), (4, 3), (4, 4), (32, 19), (32, 20), (32, 21), (32, 22)] (by decide +kernel)
theorem mm_X4_met : ∀ w ∈ wsX4_met, w ∈ wsL_law := List.forall_mem_cons.mpr ⟨mem_1 33 20 rfl, List.forall_mem_append.mpr ⟨List.forall_mem_append.mpr ⟨List.forall_mem_append.mpr ⟨List.forall_mem_append.mpr ⟨in_wsX4_met_r1, List.forall_mem_append.mpr ⟨in_wsX4_met_r2, in_wsX4_met_r3⟩⟩, inlX4⟩, inlX2⟩, inlX0⟩⟩
set_option maxRecDepth 20000 in
theorem ggL_law_X4_met : GoodIn wsL_law wsX4_met := goodIn_sub mm_X4_met (by decide +kernel)
set_option maxRecDepth 20000 in
theorem gL_law_X4_met : GoodIn wsL_law (wsV RL 82 RX4 yX4_met wsX4_met) := goodIn_app (goodIn_sub (mem_q _ [(33, 17), (33, 18), (33, 19), (0, 2)] (by decide +kernel)) (by decide +kernel)) ggL_law_X4_met
set_option maxRecDepth 20000 in
theorem in_wsX5_met_r1 : ∀ w ∈ wsX5_met_r1, w ∈ wsL_law := mem_q _ [(6, 4), (33, 3), (5, 2), (5, 3), (33, 4), (33, 5), (33, 6), (0, 5), (33, 7), (33, 8), (5, 4), (5, 6), (27, 2), (27, 3), (27, 4), (27, 5), (4, 12), (17, 23), (18, 0), (18, 1), (33, 9), (33, 10), (33, 11), (33, 12)] (by decide +kernel)
set_option maxRecDepth 20000 in
theorem in_wsX5_met_r2 : ∀ w ∈ wsX5_met_r2, w ∈ wsL_law := mem_q _ [(5, 5), (33, 13), (33, 14), (33, 15), (33, 16), (24, 16), (24, 17), (24, 18), (24, 19), (25, 4), (25, 5), (25, 6), (25, 7)] (by decide +kernel)
theorem mm_X5_met : ∀ w ∈ wsX5_met, w ∈ wsL_law := List.forall_mem_cons.mpr ⟨mem_1 34 0 rfl, List.forall_mem_append.mpr ⟨List.forall_mem_append.mpr ⟨in_wsX5_met_r1, in_wsX5_met_r2⟩, inlX5⟩⟩
set_option maxRecDepth 20000 in
theorem ggL_law_X5_met : GoodIn wsL_law wsX5_met := goodIn_sub mm_X5_met (by decide +kernel)
set_option maxRecDepth 20000 in
theorem gL_law_X5_met : GoodIn wsL_law (wsV RL 85 RX5 yX5_met wsX5_met) := goodIn_app (goodIn_sub (mem_q _ [(33, 21), (33, 22), (33, 23), (0, 5)] (by decide +kernel)) (by decide +kernel)) ggL_law_X5_met
set_option maxRecDepth 20000 in
theorem in_wsX4_run_r1 : ∀ w ∈ wsX4_run_r1, w ∈ wsL_law := mem_q _ [(0, 18), (34, 5), (34, 6), (0, 2), (34, 7), (34, 8), (34, 9), (34, 10), (34, 11), (34, 12), (34, 13), (34, 14), (1, 11), (1, 10), (1, 8), (0, 15), (0, 16), (0, 17), (1, 12), (1, 13), (1, 14), (1, 15), (0, 11), (0, 12)] (by decide +kernel)
set_option maxRecDepth 20000 in
theorem in_wsX4_run_r2 : ∀ w ∈ wsX4_run_r2, w ∈ wsL_law := mem_q _ [(0, 13), (1, 16), (1, 17), (1, 18), (1, 19), (1, 20), (1, 21), (1, 22), (1, 23), (2, 0), (2, 1), (2, 2), (2, 3), (2, 4), (2, 5), (2, 6), (2, 7), (0, 6), (2, 8), (2, 9), (2, 10), (2, 11), (2, 12), (2, 13)] (by decide +kernel)
set_option maxRecDepth 20000 in
theorem in_wsX4_run_r3 : ∀ w ∈ wsX4_run_r3, w ∈ wsL_law := mem_q _ [(2, 14), (2, 15), (2, 16), (2, 17), (2, 18), (2, 19), (2, 20), (2, 21), (2, 22), (2, 23), (3, 0), (3, 1), (3, 2), (3, 3), (3, 4), (3, 5), (3, 6), (3, 7), (3, 8), (3, 9), (3, 10), (3, 11), (3, 12), (16, 13)] (by decide +kernel)
set_option maxRecDepth 20000 in
theorem in_wsX4_run_r4 : ∀ w ∈ wsX4_run_r4, w ∈ wsL_law := mem_q _ [(16, 14), (16, 15), (16, 16), (16, 17), (16, 18), (16, 19), (16, 20), (16, 21), (16, 22), (16, 23), (17, 0), (17, 1), (34, 15), (34, 16), (34, 17), (34, 18), (34, 19), (34, 20), (23, 3), (23, 4), (23, 5), (23, 6), (13, 20), (13, 21)] (by decide +kernel)
set_option maxRecDepth 20000 in
theorem in_wsX4_run_r5 : ∀ w ∈ wsX4_run_r5, w ∈ wsL_law := mem_q _ [(13, 22), (23, 7), (22, 12), (22, 13), (22, 14), (22, 15), (22, 16), (22, 17), (22, 18), (22, 19), (22, 20), (22, 21), (22, 22), (22, 23), (23, 0), (23, 1), (34, 21), (27, 19), (27, 20), (27, 21), (27, 22), (27, 23), (28, 0), (34, 22)] (by decide +kernel)
set_option maxRecDepth 20000 in
theorem in_wsX4_run_r6 : ∀ w ∈ wsX4_run_r6, w ∈ wsL_law := mem_q _ [(34, 23), (35, 0), (35, 1), (28, 10), (28, 2), (28, 3), (28, 4), (16, 12), (16, 0), (16, 1), (16, 2), (15, 12), (15, 13), (15, 14), (28, 15), (28, 6), (28, 7), (28, 8), (28, 9), (26, 1), (26, 2), (26, 3), (35, 2), (35, 3)] (by decide +kernel)
set_option maxRecDepth 20000 in
theorem in_wsX4_run_r7 : ∀ w ∈ wsX4_run_r7, w ∈ wsL_law := mem_q _ [(35, 4), (35, 5), (35, 6), (35, 7), (35, 8), (35, 9), (35, 10), (35, 11), (35, 12), (35, 13), (35, 14), (16, 7), (15, 9), (15, 10), (15, 11), (14, 19), (14, 20), (14, 21), (14, 22), (15, 15), (15, 16), (15, 17), (15, 18), (35, 15)] (by decide +kernel)
set_option maxRecDepth 20000 in
theorem in_wsX4_run_r8 : ∀ w ∈ wsX4_run_r8, w ∈ wsL_law := mem_q _ [(35, 16), (35, 17), (35, 18), (35, 19), (16, 9), (16, 10), (16, 11), (35, 20), (35, 21), (35, 22), (35, 23), (14, 18), (14, 0), (14, 1), (14, 2), (14, 3), (14, 4), (14, 5), (14, 6), (36, 0), (36, 1), (36, 2), (36, 3)] (by decide +kernel)
theorem mm_X4_run : ∀ w ∈ wsX4_run, w ∈ wsL_law := List.forall_mem_cons.mpr ⟨mem_1 34 4 rfl, List.forall_mem_append.mpr ⟨List.forall_mem_append.mpr ⟨List.forall_mem_append.mpr ⟨List.forall_mem_append.mpr ⟨in_wsX4_run_r1, List.forall_mem_append.mpr ⟨in_wsX4_run_r2, List.forall_mem_append.mpr ⟨in_wsX4_run_r3, List.forall_mem_append.mpr ⟨in_wsX4_run_r4, List.forall_mem_append.mpr ⟨in_wsX4_run_r5, List.forall_mem_append.mpr ⟨in_wsX4_run_r6, List.forall_mem_append.mpr ⟨in_wsX4_run_r7, in_wsX4_run_r8⟩⟩⟩⟩⟩⟩⟩, inlX4⟩, inlX0⟩, inlX1⟩⟩
set_option maxRecDepth 20000 in
theorem ggL_law_X4_run : GoodIn wsL_law wsX4_run := goodIn_sub mm_X4_run (by decide +kernel)
set_option maxRecDepth 20000 in
theorem gL_law_X4_run : GoodIn wsL_law (wsV RL 86 RX4 yX4_run wsX4_run) := goodIn_app (goodIn_sub (mem_q _ [(34, 1), (34, 2), (34, 3), (0, 2)] (by decide +kernel)) (by decide +kernel)) ggL_law_X4_run
set_option maxRecDepth 20000 in
theorem in_wsX5_run_r1 : ∀ w ∈ wsX5_run_r1, w ∈ wsL_law := mem_q _ [(6, 4), (36, 8), (36, 9), (0, 5), (36, 10), (17, 23), (18, 0), (18, 1), (36, 11), (36, 12), (36, 13), (36, 14), (17, 22), (5, 8), (4, 12), (18, 2), (18, 3), (18, 4), (36, 15), (36, 16), (36, 17), (36, 18), (36, 19), (36, 20)] (by decide +kernel)
set_option maxRecDepth 20000 in
theorem in_wsX5_run_r2 : ∀ w ∈ wsX5_run_r2, w ∈ wsL_law := mem_q _ [(36, 21), (36, 22), (36, 23), (37, 0), (37, 1), (24, 0), (24, 1), (24, 2), (24, 3), (24, 4), (24, 5), (24, 6), (24, 7), (24, 8), (24, 9), (24, 10), (24, 11), (24, 12), (24, 13), (24, 14), (24, 15), (24, 16), (24, 17), (24, 18)] (by decide +kernel)
set_option maxRecDepth 20000 in
theorem in_wsX5_run_r3 : ∀ w ∈ wsX5_run_r3, w ∈ wsL_law := mem_q _ [(24, 19), (24, 20), (24, 21), (24, 22), (24, 23), (25, 0), (25, 1), (25, 2), (25, 3), (25, 4), (25, 5), (25, 6), (25, 7), (20, 11), (20, 12), (20, 13), (20, 14), (37, 2), (37, 3), (37, 4), (37, 5), (4, 21), (4, 22), (4, 23)] (by decide +kernel)
set_option maxRecDepth 20000 in
theorem in_wsX5_run_r4 : ∀ w ∈ wsX5_run_r4, w ∈ wsL_law := mem_q _ [(37, 6), (37, 7), (37, 8), (37, 9), (37, 10), (37, 11), (37, 12), (37, 13), (5, 0), (37, 14), (37, 15), (37, 16), (37, 17), (21, 6), (21, 7), (21, 8), (21, 9), (20, 15), (20, 16), (20, 17), (20, 18), (37, 18), (37, 19), (37, 20)] (by decide +kernel)
set_option maxRecDepth 20000 in
theorem in_wsX5_run_r5 : ∀ w ∈ wsX5_run_r5, w ∈ wsL_law := mem_q _ [(37, 21)] (by decide +kernel)
theorem mm_X5_run : ∀ w ∈ wsX5_run, w ∈ wsL_law := List.forall_mem_cons.mpr ⟨mem_1 36 7 rfl, List.forall_mem_append.mpr ⟨List.forall_mem_append.mpr ⟨in_wsX5_run_r1, List.forall_mem_append.mpr ⟨in_wsX5_run_r2, List.forall_mem_append.mpr ⟨in_wsX5_run_r3, List.forall_mem_append.mpr ⟨in_wsX5_run_r4, in_wsX5_run_r5⟩⟩⟩⟩, inlX5⟩⟩
set_option maxRecDepth 20000 in
theorem ggL_law_X5_run : GoodIn wsL_law wsX5_run := goodIn_sub mm_X5_run (by decide +kernel)
set_option maxRecDepth 20000 in
theorem gL_law_X5_run : GoodIn wsL_law (wsV RL 90 RX5 yX5_run wsX5_run) := goodIn_app (goodIn_sub (mem_q _ [(36, 4), (36, 5), (36, 6), (0, 5)] (by decide +kernel)) (by decide +kernel)) ggL_law_X5_run
set_option maxRecDepth 20000 in
theorem in_wsX4_round_r1 : ∀ w ∈ wsX4_round_r1, w ∈ wsL_law := mem_q _ [(0, 18), (34, 11), (34, 12), (34, 13), (0, 2), (34, 14), (1, 11), (1, 10), (1, 8), (0, 15), (0, 16), (0, 17), (1, 12), (1, 13), (1, 14), (1, 15), (0, 11), (0, 12), (0, 13), (1, 16), (1, 17), (1, 18), (1, 19), (1, 20)] (by decide +kernel)
set_option maxRecDepth 20000 in
theorem in_wsX4_round_r2 : ∀ w ∈ wsX4_round_r2, w ∈ wsL_law := mem_q _ [(1, 21), (1, 22), (1, 23), (2, 0), (2, 1), (2, 2), (2, 3), (2, 4), (2, 5), (2, 6), (2, 7), (0, 6), (2, 8), (2, 9), (2, 10), (2, 11), (2, 12), (2, 13), (2, 14), (2, 15), (2, 16), (2, 17), (2, 18), (2, 19)] (by decide +kernel)
set_option maxRecDepth 20000 in
theorem in_wsX4_round_r3 : ∀ w ∈ wsX4_round_r3, w ∈ wsL_law := mem_q _ [(2, 20), (2, 21), (2, 22), (2, 23), (3, 0), (3, 1), (3, 2), (3, 3), (3, 4), (3, 5), (3, 6), (3, 7), (3, 8), (3, 9), (3, 10), (3, 11), (3, 12), (16, 13), (16, 14), (16, 15), (16, 16), (16, 17), (16, 18), (16, 19)] (by decide +kernel)
set_option maxRecDepth 20000 in
theorem in_wsX4_round_r4 : ∀ w ∈ wsX4_round_r4, w ∈ wsL_law := mem_q _ [(16, 20), (16, 21), (16, 22), (16, 23), (17, 0), (17, 1), (38, 2), (38, 3), (38, 4), (38, 5), (23, 7), (22, 12), (22, 13), (22, 14), (22, 15), (22, 16), (22, 17), (22, 18), (22, 19), (22, 20), (22, 21), (22, 22), (22, 23), (23, 0)] (by decide +kernel)
