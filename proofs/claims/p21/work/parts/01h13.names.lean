set_option maxRecDepth 20000 in
theorem ggL_law_L_isSo_c : GoodIn wsL_law [.code yL_isSo cL_isSo 14 (some .boolean)] := goodIn_r _ [320] (by decide +kernel) (by decide +kernel)
set_option maxRecDepth 20000 in
theorem ggL_law_L_isSo_r1 : GoodIn wsL_law wsL_isSo_r1 := goodIn_r _ [321, 322, 323, 2, 324, 28, 325, 326, 327, 328, 82, 83, 21, 136, 137, 138, 20, 139, 52, 329, 306, 307, 308, 53] (by decide +kernel) (by decide +kernel)
set_option maxRecDepth 20000 in
theorem ggL_law_L_isSo_r2 : GoodIn wsL_law wsL_isSo_r2 := goodIn_r _ [285, 286, 67, 287, 330, 331, 332, 333, 148, 149, 17, 150, 151, 152, 16, 153, 47, 154, 155, 156, 157, 46, 334, 335] (by decide +kernel) (by decide +kernel)
set_option maxRecDepth 20000 in
theorem ggL_law_L_isSo_r3 : GoodIn wsL_law wsL_isSo_r3 := goodIn_r _ [336, 337, 13, 84, 85, 86, 338, 339, 340, 12, 341, 33, 112, 113, 114, 115, 116, 117, 118, 119, 34, 91, 92, 93] (by decide +kernel) (by decide +kernel)
set_option maxRecDepth 20000 in
theorem ggL_law_L_isSo_r4 : GoodIn wsL_law wsL_isSo_r4 := goodIn_r _ [248, 249, 250, 342, 343, 344, 345, 229, 230, 231, 232, 128, 129, 130, 131, 26, 174, 175, 176, 177, 35, 233, 234, 235] (by decide +kernel) (by decide +kernel)
set_option maxRecDepth 20000 in
theorem ggL_law_L_isSo_r5 : GoodIn wsL_law wsL_isSo_r5 := goodIn_r _ [236, 36, 237, 238, 239, 240, 27, 245, 246, 247, 346, 347, 348, 349, 350, 351, 352, 353, 25, 218, 219, 220, 24, 221] (by decide +kernel) (by decide +kernel)
