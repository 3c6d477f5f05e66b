/-! ===== the callees' words among the law's, on ===== -/
set_option maxRecDepth 20000 in
theorem gL_law_X5_step : GoodIn wsL_law (wsV RL 114 RX5 yX5_step wsX5_step) := goodIn_app (goodIn_of _ (by decide +kernel)) ggL_law_X5_step
set_option maxRecDepth 20000 in
theorem ggL_law_L_proves : GoodIn wsL_law wsL_proves := goodIn_ca (goodIn_ca (goodIn_r _ [371, 233, 313, 372, 373, 374, 2, 375, 24, 238, 23, 25, 239, 22, 240, 241, 242, 243, 244, 245, 20, 349, 350, 351, 352, 318, 319, 18, 158, 159, 160, 16, 161, 41, 353, 354, 355, 356, 17, 149, 150, 151, 152, 153, 128, 129, 130, 131, 43, 44, 45, 40, 154, 99, 100, 101, 331, 332, 333, 334, 182, 94, 95, 96, 97, 246, 247, 248, 249, 250, 251, 37, 252, 35, 36, 38, 253, 179, 180, 181, 376, 377, 378, 379, 558, 559, 560, 561, 562, 563, 564, 565, 566, 567, 598, 599, 588, 589] (by decide +kernel) (by decide +kernel)) (goodIn_sub (fun _ h => List.mem_append_left _ (List.mem_append_right _ h)) (by decide +kernel))) (goodIn_sub (fun _ h => List.mem_append_right _ h) (by decide +kernel))
set_option maxRecDepth 20000 in
theorem gL_law_L_proves : GoodIn wsL_law (va_wsS RL 115 yL_proves wsL_proves) := goodIn_app (goodIn_of _ (by decide +kernel)) ggL_law_L_proves
set_option maxRecDepth 20000 in
theorem ggL_law_X5_proves : GoodIn wsL_law wsX5_proves := goodIn_r _ [383, 107, 69, 70, 65, 66, 258, 259, 260, 5, 261, 262, 263, 264, 265, 211, 108, 109, 110, 361, 362, 363, 364, 68, 270, 271, 272, 273, 274, 275, 276, 277, 278, 279, 280, 365, 366, 367, 368, 72, 73, 71, 67, 74, 114, 285, 286, 287, 339, 340, 341, 281, 282, 283, 284, 204, 205, 206, 212, 213, 214, 288, 289, 290, 291, 75, 76, 292, 293, 294, 295, 296, 297, 298, 111, 112, 113, 568, 569, 570, 571, 572, 573, 574, 575, 576, 577, 578, 579, 580, 581, 582, 583, 584, 585, 586, 587] (by decide +kernel) (by decide +kernel)
set_option maxRecDepth 20000 in
theorem gL_law_X5_proves : GoodIn wsL_law (wsV RL 117 RX5 yX5_proves wsX5_proves) := goodIn_app (goodIn_of _ (by decide +kernel)) ggL_law_X5_proves
