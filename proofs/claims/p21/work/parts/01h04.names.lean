set_option maxRecDepth 20000 in
theorem ggL_law_L_calls_c : GoodIn wsL_law [.codeWith yL_calls cL_calls 7 (some .int) [(0, 68, 69, 27), (0, 68, 74, 29)]] := goodIn_r _ [99] (by decide +kernel) (by decide +kernel)
set_option maxRecDepth 20000 in
theorem ggL_law_L_calls_r1 : GoodIn wsL_law wsL_calls_r1 := goodIn_r _ [100, 101, 102, 103, 104, 2, 105, 82, 83, 106, 107, 13, 84, 85, 86, 108, 109, 110, 12, 111, 34, 112, 113, 114] (by decide +kernel) (by decide +kernel)
set_option maxRecDepth 20000 in
theorem ggL_law_L_calls_r2 : GoodIn wsL_law wsL_calls_r2 := goodIn_r _ [115, 116, 117, 118, 119, 91, 92, 93, 120, 121, 122, 123, 94, 95, 96, 124, 125, 126, 127, 17, 21, 28, 128, 129] (by decide +kernel) (by decide +kernel)
set_option maxRecDepth 20000 in
theorem ggL_law_L_calls_r3 : GoodIn wsL_law wsL_calls_r3 := goodIn_r _ [130, 131, 26, 132, 133, 134, 16, 135, 47, 136, 137, 138, 20, 139, 52, 140, 141, 142, 143, 41, 42, 43, 44, 144] (by decide +kernel) (by decide +kernel)
set_option maxRecDepth 20000 in
theorem ggL_law_L_calls_r4 : GoodIn wsL_law wsL_calls_r4 := goodIn_r _ [145, 146, 147, 148, 149, 150, 151, 152, 153, 154, 155, 156, 157, 46, 158, 159, 160, 161, 162, 163, 164, 165, 166, 167] (by decide +kernel) (by decide +kernel)
set_option maxRecDepth 20000 in
theorem ggL_law_L_calls_r5 : GoodIn wsL_law wsL_calls_r5 := goodIn_r _ [168, 169, 27, 170, 171, 172, 173, 174, 175, 176, 177, 33, 35] (by decide +kernel) (by decide +kernel)
