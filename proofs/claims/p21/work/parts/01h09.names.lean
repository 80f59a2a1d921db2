set_option maxRecDepth 20000 in
theorem gL_law_L_decides : GoodIn wsL_law (va_wsS RL 100 yL_decides wsL_decides) := goodIn_app (goodIn_of _ (by decide +kernel)) ggL_law_L_decides
set_option maxRecDepth 20000 in
theorem ggL_law_L_serves : GoodIn wsL_law wsL_serves := goodIn_r _ [253, 248, 249, 67, 250] (by decide +kernel) (by decide +kernel)
set_option maxRecDepth 20000 in
theorem gL_law_L_serves : GoodIn wsL_law (va_wsS RL 104 yL_serves wsL_serves) := goodIn_app (goodIn_of _ (by decide +kernel)) ggL_law_L_serves
