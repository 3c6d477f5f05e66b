/-! ===== the callees' words among the law's, on ===== -/
set_option maxRecDepth 20000 in
theorem ggL_law_L_value : GoodIn wsL_law wsL_value := goodIn_ca (goodIn_r _ [522, 233, 523, 524, 525, 2, 526, 239, 238, 240, 241, 242, 243, 244, 245, 20, 93, 94, 95, 96, 97, 527, 528, 529, 16, 530, 41, 154, 99, 100, 101, 40, 182, 184, 172, 173, 174, 531, 176, 177, 598, 599, 558, 559, 560, 561, 562, 563, 564, 565, 566, 567, 588, 589] (by decide +kernel) (by decide +kernel)) (goodIn_sub (fun _ h => List.mem_append_left _ (List.mem_append_right _ h)) (by decide +kernel))
set_option maxRecDepth 20000 in
theorem gL_law_L_value : GoodIn wsL_law (va_wsS RL 136 yL_value wsL_value) := goodIn_app (goodIn_of _ (by decide +kernel)) ggL_law_L_value
set_option maxRecDepth 20000 in
theorem ggL_law_X5_value : GoodIn wsL_law wsX5_value := goodIn_r _ [535, 69, 114, 258, 259, 260, 5, 261, 107, 262, 263, 264, 265, 211, 108, 109, 110, 504, 505, 506, 507, 270, 271, 272, 273, 65, 274, 275, 276, 277, 278, 279, 280, 66, 111, 112, 113, 536, 537, 538, 296, 297, 298, 568, 569, 570, 571, 572, 573, 574, 575, 576, 577, 578, 579, 580, 581, 582, 583, 584, 585, 586, 587] (by decide +kernel) (by decide +kernel)
set_option maxRecDepth 20000 in
theorem gL_law_X5_value : GoodIn wsL_law (wsV RL 139 RX5 yX5_value wsX5_value) := goodIn_app (goodIn_of _ (by decide +kernel)) ggL_law_X5_value
set_option maxRecDepth 20000 in
theorem ggL_law_L_same : GoodIn wsL_law wsL_same := goodIn_ca (goodIn_r _ [541, 233, 542, 543, 544, 2, 545, 238, 239, 240, 241, 242, 243, 244, 245, 20, 376, 377, 378, 16, 379, 41, 154, 99, 100, 101, 40, 598, 599, 558, 559, 560, 561, 562, 563, 564, 565, 566, 567, 588, 589] (by decide +kernel) (by decide +kernel)) (goodIn_sub (fun _ h => List.mem_append_left _ (List.mem_append_right _ h)) (by decide +kernel))
set_option maxRecDepth 20000 in
theorem gL_law_L_same : GoodIn wsL_law (va_wsS RL 140 yL_same wsL_same) := goodIn_app (goodIn_of _ (by decide +kernel)) ggL_law_L_same
set_option maxRecDepth 20000 in
theorem ggL_law_X5_same : GoodIn wsL_law wsX5_same := goodIn_r _ [549, 65, 66, 258, 259, 260, 5, 261, 107, 262, 263, 264, 265, 211, 108, 109, 110, 568, 569, 570, 571, 572, 573, 574, 575, 576, 577, 578, 579, 580, 581, 582, 583, 584, 585, 586, 587] (by decide +kernel) (by decide +kernel)
set_option maxRecDepth 20000 in
theorem gL_law_X5_same : GoodIn wsL_law (wsV RL 142 RX5 yX5_same wsX5_same) := goodIn_app (goodIn_of _ (by decide +kernel)) ggL_law_X5_same
set_option maxRecDepth 20000 in
theorem ggL_law_X4_count : GoodIn wsL_law wsX4_count := goodIn_r _ [553, 21, 558, 559, 560, 561, 562, 563, 564, 565, 566, 567] (by decide +kernel) (by decide +kernel)
set_option maxRecDepth 20000 in
theorem gL_law_X4_count : GoodIn wsL_law (wsV RL 143 RX4 yX4_count wsX4_count) := goodIn_app (goodIn_of _ (by decide +kernel)) ggL_law_X4_count
set_option maxRecDepth 20000 in
theorem ggL_law_X5_count : GoodIn wsL_law wsX5_count := goodIn_r _ [557, 107, 211, 568, 569, 570, 571, 572, 573, 574, 575, 576, 577, 578, 579, 580, 581, 582, 583, 584, 585, 586, 587] (by decide +kernel) (by decide +kernel)
set_option maxRecDepth 20000 in
theorem gL_law_X5_count : GoodIn wsL_law (wsV RL 146 RX5 yX5_count wsX5_count) := goodIn_app (goodIn_of _ (by decide +kernel)) ggL_law_X5_count
