set_option maxRecDepth 20000 in
theorem gL_law_L_types : GoodIn wsL_law (va_wsS RL 116 yL_types wsL_types) := goodIn_app (goodIn_of _ (by decide +kernel)) ggL_law_L_types
