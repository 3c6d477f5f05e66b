/-! ===== the callees' words among the law's, on ===== -/
set_option maxRecDepth 20000 in
theorem ggL_law_X5_degree : GoodIn wsL_law wsX5_degree := goodIn_r _ [503, 69, 258, 259, 260, 5, 261, 107, 262, 263, 264, 265, 211, 108, 109, 110, 504, 505, 506, 507, 270, 271, 272, 273, 65, 274, 275, 276, 277, 278, 279, 280, 66, 212, 213, 214, 568, 569, 570, 571, 572, 573, 574, 575, 576, 577, 578, 579, 580, 581, 582, 583, 584, 585, 586, 587] (by decide +kernel) (by decide +kernel)
set_option maxRecDepth 20000 in
theorem gL_law_X5_degree : GoodIn wsL_law (wsV RL 131 RX5 yX5_degree wsX5_degree) := goodIn_app (goodIn_of _ (by decide +kernel)) ggL_law_X5_degree
set_option maxRecDepth 20000 in
theorem ggL_law_L_at : GoodIn wsL_law wsL_at := goodIn_ca (goodIn_r _ [510, 233, 511, 512, 513, 2, 514, 240, 241, 242, 243, 244, 245, 20, 496, 497, 498, 140, 499, 194, 195, 98, 99, 100, 16, 101, 40, 558, 559, 560, 561, 562, 563, 564, 565, 566, 567, 598, 599, 588, 589] (by decide +kernel) (by decide +kernel)) (goodIn_sub (fun _ h => List.mem_append_left _ (List.mem_append_right _ h)) (by decide +kernel))
set_option maxRecDepth 20000 in
theorem gL_law_L_at : GoodIn wsL_law (va_wsS RL 132 yL_at wsL_at) := goodIn_app (goodIn_of _ (by decide +kernel)) ggL_law_L_at
set_option maxRecDepth 20000 in
theorem ggL_law_X5_at : GoodIn wsL_law wsX5_at := goodIn_r _ [518, 519, 69, 258, 259, 260, 5, 261, 107, 262, 263, 264, 265, 211, 108, 109, 110, 504, 505, 506, 507, 270, 271, 272, 273, 65, 274, 275, 276, 277, 278, 279, 280, 66, 568, 569, 570, 571, 572, 573, 574, 575, 576, 577, 578, 579, 580, 581, 582, 583, 584, 585, 586, 587] (by decide +kernel) (by decide +kernel)
set_option maxRecDepth 20000 in
theorem gL_law_X5_at : GoodIn wsL_law (wsV RL 135 RX5 yX5_at wsX5_at) := goodIn_app (goodIn_of _ (by decide +kernel)) ggL_law_X5_at
