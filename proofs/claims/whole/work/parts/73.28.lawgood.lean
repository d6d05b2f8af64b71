/-! goods by row and place -/
set_option maxRecDepth 20000 in
theorem ggL_law_X9_tagged : GoodIn wsL_law0 wsX9_tagged := goodIn_2 rowsL_in _ [(49, 2), (0, 16), (26, 5), (49, 3), (56, 0), (56, 1), (56, 2), (56, 3), (56, 4), (56, 5), (56, 6), (56, 7), (56, 8), (58, 0), (58, 1), (58, 2), (58, 3), (58, 4)] (by decide +kernel) (by decide +kernel)
set_option maxRecDepth 20000 in
theorem gL_law_X9_tagged : GoodIn wsL_law0 (wsV RL 144 RX9 yX9_tagged wsX9_tagged) := goodIn_app (goodIn_of _ (by decide +kernel)) ggL_law_X9_tagged
set_option maxRecDepth 20000 in
theorem ggL_law_X10_tagged : GoodIn wsL_law0 wsX10_tagged := goodIn_2 rowsL_in _ [(49, 7), (5, 12), (21, 4), (21, 5), (21, 6), (0, 5), (21, 7), (21, 8), (21, 9), (21, 10), (21, 11), (3, 18), (4, 19), (4, 20), (4, 21), (48, 19), (48, 20), (48, 21), (48, 22), (57, 0), (57, 1), (57, 2), (57, 3), (57, 4), (57, 5), (57, 6), (57, 7), (57, 8), (57, 9), (57, 10), (57, 11), (57, 12), (57, 13), (57, 14), (57, 15), (57, 16), (57, 17), (57, 18), (57, 19), (57, 20), (57, 21), (57, 22), (57, 23), (57, 24), (57, 25)] (by decide +kernel) (by decide +kernel)
set_option maxRecDepth 20000 in
theorem gL_law_X10_tagged : GoodIn wsL_law0 (wsV RL 147 RX10 yX10_tagged wsX10_tagged) := goodIn_app (goodIn_of _ (by decide +kernel)) ggL_law_X10_tagged
