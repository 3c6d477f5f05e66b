/-! ===== the callees' words among the law's, on ===== -/
set_option maxRecDepth 20000 in
theorem ggL_law_L_free : GoodIn wsL_law wsL_free := goodIn_ca (goodIn_ca (goodIn_ca (goodIn_r _ [476, 233, 313, 86, 477, 478, 479, 2, 480, 30, 238, 17, 18, 240, 241, 242, 243, 244, 245, 20, 391, 392, 393, 394, 318, 319, 349, 350, 351, 352, 158, 159, 160, 16, 161, 41, 395, 396, 397, 91, 92, 402, 403, 404, 29, 405, 55, 56, 406, 53, 52, 407, 54, 51, 408, 150, 151, 152, 153, 128, 129, 130, 131, 43, 44, 45, 40, 154, 99, 100, 101, 409, 332, 333, 334, 182, 94, 95, 96, 97, 410, 247, 248, 249, 250, 251, 37, 252, 35, 36, 38, 411, 179, 180, 181, 412, 413, 414, 415, 416, 417, 418, 419, 59, 57, 420, 421, 422, 423, 424, 425, 426, 427, 428, 429, 172, 173, 174, 430, 431, 432, 433, 176, 177, 434, 481, 482, 483, 484, 558, 559, 560, 561, 562, 563, 564, 565, 566, 567, 598, 599, 588, 589, 590, 591, 592, 593, 594, 595, 596, 597] (by decide +kernel) (by decide +kernel)) (goodIn_sub (fun _ h => List.mem_append_left _ (List.mem_append_right _ h)) (by decide +kernel))) (goodIn_sub (fun _ h => List.mem_append_right _ h) (by decide +kernel))) (goodIn_sub (fun _ h => List.mem_append_left _ (List.mem_append_left _ (List.mem_append_left _ (List.mem_append_right _ h)))) (by decide +kernel))
set_option maxRecDepth 20000 in
theorem gL_law_L_free : GoodIn wsL_law (va_wsS RL 125 yL_free wsL_free) := goodIn_app (goodIn_of _ (by decide +kernel)) ggL_law_L_free
set_option maxRecDepth 20000 in
theorem gh_X5_free_0 : GoodIn wsL_law [Cond.code yX5_free cX5_free 3 (some .int)] := goodIn_r _ [488] (by decide +kernel) (by decide +kernel)
set_option maxRecDepth 20000 in
theorem gh_wsX5_free_r1 : GoodIn wsL_law wsX5_free_r1 := goodIn_r _ [448, 450, 451, 452, 5, 453, 71, 107, 258, 259, 260, 261, 262, 263, 264, 265, 211, 108, 109, 110, 270, 271, 272, 273] (by decide +kernel) (by decide +kernel)
set_option maxRecDepth 20000 in
theorem gh_wsX5_free_r2 : GoodIn wsL_law wsX5_free_r2 := goodIn_r _ [65, 274, 275, 276, 212, 213, 214, 361, 362, 363, 364, 68, 215, 216, 217, 218, 454, 455, 456, 457, 79, 80, 67, 72] (by decide +kernel) (by decide +kernel)
set_option maxRecDepth 20000 in
theorem gh_wsX5_free_r3 : GoodIn wsL_law wsX5_free_r3 := goodIn_r _ [74, 73, 81, 69, 70, 77, 114, 285, 286, 287, 339, 340, 341, 281, 282, 283, 284, 204, 205, 206, 277, 278, 279, 280] (by decide +kernel) (by decide +kernel)
set_option maxRecDepth 20000 in
theorem gh_wsX5_free_r4 : GoodIn wsL_law wsX5_free_r4 := goodIn_r _ [66, 458, 459, 460, 461, 78, 449, 296, 297, 298, 111, 112, 113] (by decide +kernel) (by decide +kernel)
set_option maxRecDepth 20000 in
theorem gh_X5_free_t : GoodIn wsL_law wsX50 := goodIn_r _ [568, 569, 570, 571, 572, 573, 574, 575, 576, 577, 578, 579, 580, 581, 582, 583, 584, 585, 586, 587] (by decide +kernel) (by decide +kernel)
theorem ggL_law_X5_free : GoodIn wsL_law wsX5_free := goodIn_app (a := [Cond.code yX5_free cX5_free 3 (some .int)]) gh_X5_free_0 (goodIn_app (goodIn_app gh_wsX5_free_r1 (goodIn_app gh_wsX5_free_r2 (goodIn_app gh_wsX5_free_r3 gh_wsX5_free_r4))) gh_X5_free_t)
set_option maxRecDepth 20000 in
theorem gL_law_X5_free : GoodIn wsL_law (wsV RL 127 RX5 yX5_free wsX5_free) := goodIn_app (goodIn_of _ (by decide +kernel)) ggL_law_X5_free
set_option maxRecDepth 20000 in
theorem ggL_law_L_degree : GoodIn wsL_law wsL_degree := goodIn_ca (goodIn_r _ [491, 233, 492, 493, 494, 2, 495, 138, 240, 241, 242, 243, 244, 245, 20, 496, 497, 498, 140, 499, 194, 195, 588, 589, 558, 559, 560, 561, 562, 563, 564, 565, 566, 567, 598, 599] (by decide +kernel) (by decide +kernel)) (goodIn_sub (fun _ h => List.mem_append_left _ (List.mem_append_right _ h)) (by decide +kernel))
set_option maxRecDepth 20000 in
theorem gL_law_L_degree : GoodIn wsL_law (va_wsS RL 128 yL_degree wsL_degree) := goodIn_app (goodIn_of _ (by decide +kernel)) ggL_law_L_degree
