set_option maxRecDepth 20000 in
theorem ggL_law_L_isSo_r6 : GoodIn wsL_law wsL_isSo_r6 := goodIn_r _ [59, 222, 223, 224, 225, 226, 227, 228] (by decide +kernel) (by decide +kernel)
theorem ggL_law_L_isSo_wsX40 : GoodIn wsL_law wsX40 := goodIn_sub inlX4 (by decide +kernel)
theorem ggL_law_L_isSo_wsX20 : GoodIn wsL_law wsX20 := goodIn_sub inlX2 (by decide +kernel)
theorem ggL_law_L_isSo_wsX30 : GoodIn wsL_law wsX30 := goodIn_sub inlX3 (by decide +kernel)
theorem ggL_law_L_isSo_wsX10 : GoodIn wsL_law wsX10 := goodIn_sub inlX1 (by decide +kernel)
theorem ggL_law_L_isSo_wsX00 : GoodIn wsL_law wsX00 := goodIn_sub inlX0 (by decide +kernel)
