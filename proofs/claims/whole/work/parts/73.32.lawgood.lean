/-! goods by row and place -/
set_option maxRecDepth 20000 in
theorem ggL_law_X9_keep : GoodIn wsL_law0 wsX9_keep := goodIn_2 rowsL_in _ [(52, 10), (0, 21), (0, 16), (0, 23), (52, 11), (11, 4), (11, 5), (0, 15), (11, 6), (2, 0), (11, 7), (11, 8), (11, 9), (11, 10), (2, 1), (2, 2), (11, 11), (11, 12), (56, 0), (56, 1), (56, 2), (56, 3), (56, 4), (56, 5), (56, 6), (56, 7), (56, 8), (58, 0), (58, 1), (58, 2), (58, 3), (58, 4)] (by decide +kernel) (by decide +kernel)
set_option maxRecDepth 20000 in
theorem gL_law_X9_keep : GoodIn wsL_law0 (wsV RL 160 RX9 yX9_keep wsX9_keep) := goodIn_app (goodIn_of _ (by decide +kernel)) ggL_law_X9_keep
set_option maxRecDepth 20000 in
theorem ggL_law_X10_keep : GoodIn wsL_law0 wsX10_keep := goodIn_2 rowsL_in _ [(52, 15), (5, 12), (4, 10), (4, 9), (3, 18), (4, 19), (4, 20), (0, 5), (4, 21), (57, 0), (57, 1), (57, 2), (57, 3), (57, 4), (57, 5), (57, 6), (57, 7), (57, 8), (57, 9), (57, 10), (57, 11), (57, 12), (57, 13), (57, 14), (57, 15), (57, 16), (57, 17), (57, 18), (57, 19), (57, 20), (57, 21), (57, 22), (57, 23), (57, 24), (57, 25)] (by decide +kernel) (by decide +kernel)
set_option maxRecDepth 20000 in
theorem gL_law_X10_keep : GoodIn wsL_law0 (wsV RL 163 RX10 yX10_keep wsX10_keep) := goodIn_app (goodIn_of _ (by decide +kernel)) ggL_law_X10_keep
set_option maxRecDepth 20000 in
theorem ggL_law_X9_again : GoodIn wsL_law0 wsX9_again := goodIn_2 rowsL_in _ [(52, 19), (0, 23), (0, 16), (0, 21), (0, 20), (52, 11), (11, 4), (11, 5), (0, 15), (11, 6), (2, 0), (11, 7), (11, 8), (11, 9), (11, 10), (2, 1), (2, 2), (11, 11), (11, 12), (52, 20), (52, 21), (52, 22), (0, 19), (52, 23), (12, 5), (56, 0), (56, 1), (56, 2), (56, 3), (56, 4), (56, 5), (56, 6), (56, 7), (56, 8), (58, 0), (58, 1), (58, 2), (58, 3), (58, 4), (59, 0), (59, 1), (59, 2)] (by decide +kernel) (by decide +kernel)
set_option maxRecDepth 20000 in
theorem gL_law_X9_again : GoodIn wsL_law0 (wsV RL 164 RX9 yX9_again wsX9_again) := goodIn_app (goodIn_of _ (by decide +kernel)) ggL_law_X9_again
set_option maxRecDepth 20000 in
theorem ggL_law_X10_again : GoodIn wsL_law0 wsX10_again := goodIn_2 rowsL_in _ [(53, 3), (5, 12), (4, 10), (3, 18), (4, 9), (15, 11), (4, 19), (4, 20), (0, 5), (4, 21), (57, 0), (57, 1), (57, 2), (57, 3), (57, 4), (57, 5), (57, 6), (57, 7), (57, 8), (57, 9), (57, 10), (57, 11), (57, 12), (57, 13), (57, 14), (57, 15), (57, 16), (57, 17), (57, 18), (57, 19), (57, 20), (57, 21), (57, 22), (57, 23), (57, 24), (57, 25)] (by decide +kernel) (by decide +kernel)
set_option maxRecDepth 20000 in
theorem gL_law_X10_again : GoodIn wsL_law0 (wsV RL 167 RX10 yX10_again wsX10_again) := goodIn_app (goodIn_of _ (by decide +kernel)) ggL_law_X10_again
set_option maxRecDepth 20000 in
theorem ggL_law_X9_count : GoodIn wsL_law0 wsX9_count := goodIn_2 rowsL_in _ [(53, 7), (0, 16), (6, 6), (26, 5), (0, 20), (53, 8), (1, 7), (53, 9), (1, 3), (5, 2), (34, 2), (34, 3), (34, 4), (0, 15), (34, 5), (11, 11), (34, 6), (30, 12), (30, 13), (30, 14), (2, 0), (30, 15), (15, 17), (15, 18), (15, 19), (53, 10), (53, 11), (53, 12), (53, 13), (11, 22), (11, 23), (7, 3), (12, 0), (53, 14), (53, 15), (53, 16), (53, 17), (11, 12), (11, 18), (24, 15), (24, 16), (24, 17), (24, 18), (2, 2), (56, 0), (56, 1), (56, 2), (56, 3), (56, 4), (56, 5), (56, 6), (56, 7), (56, 8), (58, 0), (58, 1), (58, 2), (58, 3), (58, 4), (59, 0), (59, 1), (59, 2), (61, 0), (61, 1), (60, 0), (60, 1)] (by decide +kernel) (by decide +kernel)
set_option maxRecDepth 20000 in
theorem gL_law_X9_count : GoodIn wsL_law0 (wsV RL 168 RX9 yX9_count wsX9_count) := goodIn_app (goodIn_of _ (by decide +kernel)) ggL_law_X9_count
set_option maxRecDepth 20000 in
theorem ggL_law_X10_count : GoodIn wsL_law0 wsX10_count := goodIn_2 rowsL_in _ [(53, 21), (5, 12), (15, 11), (25, 12), (5, 13), (19, 18), (19, 19), (19, 20), (0, 5), (19, 21), (3, 18), (21, 8), (21, 9), (21, 10), (21, 11), (35, 1), (35, 2), (35, 3), (35, 4), (32, 16), (32, 17), (32, 18), (32, 19), (19, 14), (19, 15), (19, 16), (19, 17), (4, 19), (4, 20), (4, 21), (20, 5), (20, 6), (20, 7), (20, 8), (53, 22), (53, 23), (54, 0), (54, 1), (4, 15), (25, 17), (25, 18), (25, 19), (25, 20), (4, 16), (4, 17), (4, 18), (57, 0), (57, 1), (57, 2), (57, 3), (57, 4), (57, 5), (57, 6), (57, 7), (57, 8), (57, 9), (57, 10), (57, 11), (57, 12), (57, 13), (57, 14), (57, 15), (57, 16), (57, 17), (57, 18), (57, 19), (57, 20), (57, 21), (57, 22), (57, 23), (57, 24), (57, 25)] (by decide +kernel) (by decide +kernel)
set_option maxRecDepth 20000 in
theorem gL_law_X10_count : GoodIn wsL_law0 (wsV RL 171 RX10 yX10_count wsX10_count) := goodIn_app (goodIn_of _ (by decide +kernel)) ggL_law_X10_count
set_option maxRecDepth 20000 in
theorem ggL_law_X10_answer : GoodIn wsL_law0 wsX10_answer := goodIn_2 rowsL_in _ [(54, 17), (5, 12), (25, 12), (3, 21), (4, 19), (4, 20), (0, 5), (4, 21), (54, 18), (54, 19), (54, 20), (54, 21), (57, 0), (57, 1), (57, 2), (57, 3), (57, 4), (57, 5), (57, 6), (57, 7), (57, 8), (57, 9), (57, 10), (57, 11), (57, 12), (57, 13), (57, 14), (57, 15), (57, 16), (57, 17), (57, 18), (57, 19), (57, 20), (57, 21), (57, 22), (57, 23), (57, 24), (57, 25)] (by decide +kernel) (by decide +kernel)
set_option maxRecDepth 20000 in
theorem gL_law_X10_answer : GoodIn wsL_law0 (wsV RL 177 RX10 yX10_answer wsX10_answer) := goodIn_app (goodIn_of _ (by decide +kernel)) ggL_law_X10_answer
