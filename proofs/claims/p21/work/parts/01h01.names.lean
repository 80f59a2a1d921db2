set_option maxRecDepth 20000 in
theorem ggL_law_L_sets_r6 : GoodIn wsL_law wsL_sets_r6 := goodIn_r _ [174, 175, 176, 177, 35, 178, 179, 180, 181, 182, 183, 184, 185, 36, 186, 187, 188, 189, 190, 191, 192, 193, 194, 195] (by decide +kernel) (by decide +kernel)
set_option maxRecDepth 20000 in
theorem ggL_law_L_sets_r7 : GoodIn wsL_law wsL_sets_r7 := goodIn_r _ [196, 197, 198] (by decide +kernel) (by decide +kernel)
theorem ggL_law_L_sets_wsX40 : GoodIn wsL_law wsX40 := goodIn_sub inlX4 (by decide +kernel)
theorem ggL_law_L_sets_wsX10 : GoodIn wsL_law wsX10 := goodIn_sub inlX1 (by decide +kernel)
theorem ggL_law_L_sets_wsX30 : GoodIn wsL_law wsX30 := goodIn_sub inlX3 (by decide +kernel)
theorem ggL_law_L_sets_wsX20 : GoodIn wsL_law wsX20 := goodIn_sub inlX2 (by decide +kernel)
