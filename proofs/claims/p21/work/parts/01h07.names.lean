set_option maxRecDepth 20000 in
theorem ggL_law_L_decides_c : GoodIn wsL_law [.code yL_decides cL_decides 14 (some .boolean)] := goodIn_r _ [201] (by decide +kernel) (by decide +kernel)
set_option maxRecDepth 20000 in
theorem ggL_law_L_decides_r1 : GoodIn wsL_law wsL_decides_r1 := goodIn_r _ [71, 72, 67, 73, 74, 202, 203, 204, 2, 205, 82, 83, 148, 149, 17, 28, 84, 85, 86, 150, 151, 152, 16, 153] (by decide +kernel) (by decide +kernel)
set_option maxRecDepth 20000 in
theorem ggL_law_L_decides_r2 : GoodIn wsL_law wsL_decides_r2 := goodIn_r _ [47, 154, 155, 156, 157, 46, 206, 207, 208, 209, 44, 210, 211, 212, 213, 41, 214, 215, 216, 217, 25, 218, 219, 220] (by decide +kernel) (by decide +kernel)
set_option maxRecDepth 20000 in
theorem ggL_law_L_decides_r3 : GoodIn wsL_law wsL_decides_r3 := goodIn_r _ [24, 221, 59, 222, 223, 224, 225, 226, 227, 228, 229, 230, 231, 232, 13, 128, 129, 130, 131, 26, 174, 175, 176, 12] (by decide +kernel) (by decide +kernel)
set_option maxRecDepth 20000 in
theorem ggL_law_L_decides_r4 : GoodIn wsL_law wsL_decides_r4 := goodIn_r _ [177, 33, 35, 112, 113, 114, 115, 116, 117, 118, 119, 34, 91, 92, 93, 233, 234, 235, 236, 36, 237, 238, 239, 240] (by decide +kernel) (by decide +kernel)
set_option maxRecDepth 20000 in
theorem ggL_law_L_decides_r5 : GoodIn wsL_law wsL_decides_r5 := goodIn_r _ [27, 241, 242, 243, 244, 58, 60, 245, 246, 247, 248, 249, 250] (by decide +kernel) (by decide +kernel)
