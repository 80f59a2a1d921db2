set_option maxRecDepth 20000 in
theorem ggL_law_L_caches_c : GoodIn wsL_law [.code yL_caches cL_caches 9 (some .boolean)] := goodIn_r _ [256] (by decide +kernel) (by decide +kernel)
set_option maxRecDepth 20000 in
theorem ggL_law_L_caches_r1 : GoodIn wsL_law wsL_caches_r1 := goodIn_r _ [71, 72, 67, 73, 74, 257, 258, 259, 2, 260, 82, 83, 25, 28, 84, 85, 86, 261, 262, 263, 24, 264, 58, 265] (by decide +kernel) (by decide +kernel)
set_option maxRecDepth 20000 in
theorem ggL_law_L_caches_r2 : GoodIn wsL_law wsL_caches_r2 := goodIn_r _ [266, 267, 268, 269, 270, 271, 272, 60, 59, 222, 223, 224, 273, 274, 275, 276, 277, 278, 279, 280, 281, 219, 220, 221] (by decide +kernel) (by decide +kernel)
theorem ggL_law_L_caches_wsX40 : GoodIn wsL_law wsX40 := goodIn_sub inlX4 (by decide +kernel)
theorem ggL_law_L_caches_wsX00 : GoodIn wsL_law wsX00 := goodIn_sub inlX0 (by decide +kernel)
theorem ggL_law_L_caches_b : GoodIn wsL_law (.code yL_caches cL_caches 9 (some .boolean) :: ((wsL_caches_r1 ++ wsL_caches_r2) ++ wsX40 ++ wsX00)) := goodIn_ca (a := []) ggL_law_L_caches_c (goodIn_app (goodIn_app (goodIn_app ggL_law_L_caches_r1 (ggL_law_L_caches_r2)) ggL_law_L_caches_wsX40) ggL_law_L_caches_wsX00)
