/-! ===== the callees' words among the law's, on ===== -/
set_option maxRecDepth 20000 in
theorem ggL_law_L_least : GoodIn wsL_law wsL_least := goodIn_ca (goodIn_ca (goodIn_r _ [464, 233, 313, 465, 466, 467, 2, 468, 22, 138, 469, 36, 37, 38, 240, 241, 242, 243, 244, 245, 20, 391, 392, 393, 394, 318, 319, 238, 349, 350, 351, 352, 18, 158, 159, 160, 16, 161, 41, 398, 399, 400, 401, 30, 17, 402, 403, 404, 29, 405, 55, 56, 406, 53, 52, 407, 54, 51, 408, 150, 151, 152, 153, 128, 129, 130, 131, 43, 44, 45, 40, 154, 99, 100, 101, 409, 332, 333, 334, 182, 94, 95, 96, 97, 410, 247, 248, 249, 250, 251, 252, 35, 411, 179, 180, 181, 412, 413, 414, 415, 416, 417, 418, 419, 59, 57, 420, 421, 422, 423, 424, 425, 426, 427, 428, 429, 172, 173, 174, 430, 431, 432, 433, 176, 177, 434, 435, 436, 437, 438, 439, 440, 441, 442, 443, 558, 559, 560, 561, 562, 563, 564, 565, 566, 567, 588, 589, 598, 599, 590, 591, 592, 593, 594, 595, 596, 597] (by decide +kernel) (by decide +kernel)) (goodIn_sub (fun _ h => List.mem_append_left _ (List.mem_append_right _ h)) (by decide +kernel))) (goodIn_sub (fun _ h => List.mem_append_right _ h) (by decide +kernel))
set_option maxRecDepth 20000 in
theorem gL_law_L_least : GoodIn wsL_law (va_wsS RL 122 yL_least wsL_least) := goodIn_app (goodIn_of _ (by decide +kernel)) ggL_law_L_least
set_option maxRecDepth 20000 in
theorem gh_X5_least_0 : GoodIn wsL_law [Cond.code yX5_least cX5_least 4 (some .int)] := goodIn_r _ [473] (by decide +kernel) (by decide +kernel)
set_option maxRecDepth 20000 in
theorem gh_wsX5_least_r1 : GoodIn wsL_law wsX5_least_r1 := goodIn_r _ [449, 450, 451, 452, 5, 453, 71, 107, 258, 259, 260, 261, 262, 263, 264, 265, 211, 108, 109, 110, 270, 271, 272, 273] (by decide +kernel) (by decide +kernel)
set_option maxRecDepth 20000 in
theorem gh_wsX5_least_r2 : GoodIn wsL_law wsX5_least_r2 := goodIn_r _ [65, 274, 275, 276, 212, 213, 214, 361, 362, 363, 364, 68, 454, 455, 456, 457, 79, 80, 67, 72, 74, 73, 81, 69] (by decide +kernel) (by decide +kernel)
set_option maxRecDepth 20000 in
theorem gh_wsX5_least_r3 : GoodIn wsL_law wsX5_least_r3 := goodIn_r _ [70, 77, 114, 285, 286, 287, 339, 340, 341, 281, 282, 283, 284, 204, 205, 206, 277, 278, 279, 280, 66, 458, 459, 460] (by decide +kernel) (by decide +kernel)
set_option maxRecDepth 20000 in
theorem gh_wsX5_least_r4 : GoodIn wsL_law wsX5_least_r4 := goodIn_r _ [461, 78, 296, 297, 298, 111, 112, 113] (by decide +kernel) (by decide +kernel)
set_option maxRecDepth 20000 in
theorem gh_X5_least_t : GoodIn wsL_law wsX50 := goodIn_r _ [568, 569, 570, 571, 572, 573, 574, 575, 576, 577, 578, 579, 580, 581, 582, 583, 584, 585, 586, 587] (by decide +kernel) (by decide +kernel)
theorem ggL_law_X5_least : GoodIn wsL_law wsX5_least := goodIn_app (a := [Cond.code yX5_least cX5_least 4 (some .int)]) gh_X5_least_0 (goodIn_app (goodIn_app gh_wsX5_least_r1 (goodIn_app gh_wsX5_least_r2 (goodIn_app gh_wsX5_least_r3 gh_wsX5_least_r4))) gh_X5_least_t)
set_option maxRecDepth 20000 in
theorem gL_law_X5_least : GoodIn wsL_law (wsV RL 124 RX5 yX5_least wsX5_least) := goodIn_app (goodIn_of _ (by decide +kernel)) ggL_law_X5_least
