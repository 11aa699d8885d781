set_option maxRecDepth 20000 in
theorem gL_law_L_begun : GoodIn wsL_law (va_wsS RL 304 yL_begun wsL_begun) := goodIn_app (goodIn_of _ (by decide +kernel)) ggL_law_L_begun
