set_option maxRecDepth 20000 in
theorem ggL_law_L_sets_c : GoodIn wsL_law [.code yL_sets cL_sets 16 (some .boolean)] := goodIn_r _ [77] (by decide +kernel) (by decide +kernel)
set_option maxRecDepth 20000 in
theorem ggL_law_L_sets_r1 : GoodIn wsL_law wsL_sets_r1 := goodIn_r _ [71, 72, 67, 73, 74, 78, 79, 80, 2, 81, 82, 83, 13, 84, 85, 86, 87, 88, 89, 12, 90, 33, 91, 92] (by decide +kernel) (by decide +kernel)
set_option maxRecDepth 20000 in
theorem ggL_law_L_sets_r2 : GoodIn wsL_law wsL_sets_r2 := goodIn_r _ [93, 94, 95, 96, 97, 98, 99, 100, 101, 102, 103, 104, 105, 106, 107, 108, 109, 110, 111, 34, 112, 113, 114, 115] (by decide +kernel) (by decide +kernel)
set_option maxRecDepth 20000 in
theorem ggL_law_L_sets_r3 : GoodIn wsL_law wsL_sets_r3 := goodIn_r _ [116, 117, 118, 119, 120, 121, 122, 123, 124, 125, 126, 127, 17, 21, 28, 128, 129, 130, 131, 26, 132, 133, 134, 16] (by decide +kernel) (by decide +kernel)
set_option maxRecDepth 20000 in
theorem ggL_law_L_sets_r4 : GoodIn wsL_law wsL_sets_r4 := goodIn_r _ [135, 47, 136, 137, 138, 20, 139, 52, 140, 141, 142, 143, 41, 42, 43, 44, 144, 145, 146, 147, 148, 149, 150, 151] (by decide +kernel) (by decide +kernel)
set_option maxRecDepth 20000 in
theorem ggL_law_L_sets_r5 : GoodIn wsL_law wsL_sets_r5 := goodIn_r _ [152, 153, 154, 155, 156, 157, 46, 158, 159, 160, 161, 162, 163, 164, 165, 166, 167, 168, 169, 27, 170, 171, 172, 173] (by decide +kernel) (by decide +kernel)
