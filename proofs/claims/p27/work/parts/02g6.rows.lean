set_option maxRecDepth 20000 in
theorem gL_law_L_visit : GoodIn wsL_law (va_wsS RL 143 yL_visit wsL_visit) := goodIn_app (goodIn_of _ (by decide +kernel)) ggL_law_L_visit
