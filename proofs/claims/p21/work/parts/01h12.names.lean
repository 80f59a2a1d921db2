set_option maxRecDepth 20000 in
theorem gL_law_L_caches : GoodIn wsL_law (va_wsS RL 108 yL_caches wsL_caches) := goodIn_app (goodIn_of _ (by decide +kernel)) ggL_law_L_caches
set_option maxRecDepth 20000 in
theorem ggL_law_L_sweep : GoodIn wsL_law wsL_sweep := goodIn_r _ [284, 285, 286, 67, 287] (by decide +kernel) (by decide +kernel)
set_option maxRecDepth 20000 in
theorem gL_law_L_sweep : GoodIn wsL_law (va_wsS RL 112 yL_sweep wsL_sweep) := goodIn_app (goodIn_of _ (by decide +kernel)) ggL_law_L_sweep
set_option maxRecDepth 20000 in
theorem ggL_law_X4_changeKeys : GoodIn wsL_law wsX4_changeKeys := goodIn_ca (goodIn_r _ [291, 82, 83, 21, 28, 17, 26, 292, 293, 294, 20, 295, 52, 53, 296, 297, 298, 16, 299, 47, 46, 41, 300, 301, 302, 303, 44, 42, 304, 163, 164, 165, 43, 305, 306, 307, 308, 198, 159, 160, 161, 136, 137, 138, 139, 354, 355, 356, 357, 358, 359, 360, 371, 372, 365, 366, 367, 368, 369, 370] (by decide +kernel) (by decide +kernel)) (goodIn_sub (fun _ h => List.mem_append_left _ (List.mem_append_left _ (List.mem_append_right _ h))) (by decide +kernel))
set_option maxRecDepth 20000 in
theorem gL_law_X4_changeKeys : GoodIn wsL_law (wsV RL 116 RX4 yX4_changeKeys wsX4_changeKeys) := goodIn_app (goodIn_of _ (by decide +kernel)) ggL_law_X4_changeKeys
set_option maxRecDepth 20000 in
theorem ggL_law_X4_pass : GoodIn wsL_law wsX4_pass := goodIn_ca (goodIn_r _ [312, 82, 83, 28, 25, 17, 26, 21, 313, 314, 315, 24, 316, 317, 270, 271, 272, 60, 58, 59, 222, 223, 224, 296, 297, 298, 16, 299, 47, 46, 41, 300, 301, 302, 303, 44, 42, 304, 163, 164, 165, 43, 305, 306, 307, 20, 308, 52, 53, 198, 159, 160, 161, 354, 355, 356, 357, 358, 359, 360, 373, 374, 375, 365, 366, 367, 368, 369, 370, 371, 372] (by decide +kernel) (by decide +kernel)) (goodIn_sub (fun _ h => List.mem_append_left _ (List.mem_append_left _ (List.mem_append_right _ h))) (by decide +kernel))
set_option maxRecDepth 20000 in
theorem gL_law_X4_pass : GoodIn wsL_law (wsV RL 119 RX4 yX4_pass wsX4_pass) := goodIn_app (goodIn_of _ (by decide +kernel)) ggL_law_X4_pass
