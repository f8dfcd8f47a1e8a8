set_option maxRecDepth 20000 in
theorem gL_law_L_finds : GoodIn wsL_law (va_wsS RL 120 yL_finds wsL_finds) := goodIn_app (goodIn_of _ (by decide +kernel)) ggL_law_L_finds
set_option maxRecDepth 20000 in
theorem ggL_law_X3_setRest : GoodIn wsL_law wsX3_setRest := goodIn_ca (goodIn_ca (goodIn_r _ [166, 63, 64, 167, 105, 106, 107, 2, 108, 109, 110, 16, 387, 388, 389, 374, 375, 376, 377, 378, 379, 380, 381, 382] (by decide +kernel) (by decide +kernel)) (goodIn_sub (fun _ h => List.mem_append_left _ (List.mem_append_left _ (List.mem_append_right _ h))) (by decide +kernel))) (goodIn_sub (fun _ h => List.mem_append_right _ h) (by decide +kernel))
set_option maxRecDepth 20000 in
theorem gL_law_X3_setRest : GoodIn wsL_law (wsV RL 124 RX3 yX3_setRest wsX3_setRest) := goodIn_app (goodIn_of _ (by decide +kernel)) ggL_law_X3_setRest
set_option maxRecDepth 20000 in
theorem ggL_law_X3_setPaces : GoodIn wsL_law wsX3_setPaces := goodIn_ca (goodIn_r _ [171, 63, 64, 21, 22, 374, 375, 376, 377, 378, 379, 380, 381, 382] (by decide +kernel) (by decide +kernel)) (goodIn_sub (fun _ h => List.mem_append_left _ (List.mem_append_left _ (List.mem_append_right _ h))) (by decide +kernel))
set_option maxRecDepth 20000 in
theorem gL_law_X3_setPaces : GoodIn wsL_law (wsV RL 127 RX3 yX3_setPaces wsX3_setPaces) := goodIn_app (goodIn_of _ (by decide +kernel)) ggL_law_X3_setPaces
set_option maxRecDepth 20000 in
theorem ggL_law_X3_setBudget : GoodIn wsL_law wsX3_setBudget := goodIn_ca (goodIn_r _ [175, 63, 64, 23, 374, 375, 376, 377, 378, 379, 380, 381, 382] (by decide +kernel) (by decide +kernel)) (goodIn_sub (fun _ h => List.mem_append_left _ (List.mem_append_left _ (List.mem_append_right _ h))) (by decide +kernel))
set_option maxRecDepth 20000 in
theorem gL_law_X3_setBudget : GoodIn wsL_law (wsV RL 131 RX3 yX3_setBudget wsX3_setBudget) := goodIn_app (goodIn_of _ (by decide +kernel)) ggL_law_X3_setBudget
set_option maxRecDepth 20000 in
theorem ggL_law_X3_setRank : GoodIn wsL_law wsX3_setRank := goodIn_ca (goodIn_ca (goodIn_r _ [179, 180, 181, 182, 183, 2, 184, 109, 110, 20, 111, 112, 113, 63, 64, 390, 391, 392, 393, 394, 395, 396, 397, 398, 399, 374, 375, 376, 377, 378, 379, 380, 381, 382] (by decide +kernel) (by decide +kernel)) (goodIn_sub (fun _ h => List.mem_append_right _ h) (by decide +kernel))) (goodIn_sub (fun _ h => List.mem_append_left _ (List.mem_append_left _ (List.mem_append_right _ h))) (by decide +kernel))
set_option maxRecDepth 20000 in
theorem gL_law_X3_setRank : GoodIn wsL_law (wsV RL 134 RX3 yX3_setRank wsX3_setRank) := goodIn_app (goodIn_of _ (by decide +kernel)) ggL_law_X3_setRank
set_option maxRecDepth 20000 in
theorem ggL_law_L_waiting : GoodIn wsL_law wsL_waiting := goodIn_r _ [187, 188, 189, 37, 190] (by decide +kernel) (by decide +kernel)
set_option maxRecDepth 20000 in
theorem gL_law_L_waiting : GoodIn wsL_law (va_wsS RL 56 yL_waiting wsL_waiting) := goodIn_app (goodIn_of _ (by decide +kernel)) ggL_law_L_waiting
set_option maxRecDepth 20000 in
theorem ggL_law_X3_pass : GoodIn wsL_law wsX3_pass := goodIn_ca (goodIn_ca (goodIn_r _ [194, 63, 64, 65, 66, 104, 195, 196, 197, 198, 199, 2, 200, 374, 375, 376, 377, 378, 379, 380, 381, 382] (by decide +kernel) (by decide +kernel)) (goodIn_sub (fun _ h => List.mem_append_left _ (List.mem_append_left _ (List.mem_append_right _ h))) (by decide +kernel))) (goodIn_sub (fun _ h => List.mem_append_left _ (List.mem_append_right _ h)) (by decide +kernel))
set_option maxRecDepth 20000 in
theorem gL_law_X3_pass : GoodIn wsL_law (wsV RL 137 RX3 yX3_pass wsX3_pass) := goodIn_app (goodIn_of _ (by decide +kernel)) ggL_law_X3_pass
set_option maxRecDepth 20000 in
theorem ggL_law_L_next : GoodIn wsL_law wsL_next := goodIn_r _ [203, 204, 205, 37, 206, 188, 189, 190] (by decide +kernel) (by decide +kernel)
set_option maxRecDepth 20000 in
theorem gL_law_L_next : GoodIn wsL_law (va_wsS RL 47 yL_next wsL_next) := goodIn_app (goodIn_of _ (by decide +kernel)) ggL_law_L_next
set_option maxRecDepth 20000 in
theorem ggL_law_L_visits : GoodIn wsL_law wsL_visits := goodIn_r _ [209, 204, 205, 37, 206, 188, 189, 190] (by decide +kernel) (by decide +kernel)
set_option maxRecDepth 20000 in
theorem gL_law_L_visits : GoodIn wsL_law (va_wsS RL 140 yL_visits wsL_visits) := goodIn_app (goodIn_of _ (by decide +kernel)) ggL_law_L_visits
