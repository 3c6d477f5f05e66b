/-! ===== the callees' words among the law's, on ===== -/
set_option maxRecDepth 20000 in
theorem ggL_law_L_find : GoodIn wsL_law wsL_find := goodIn_ca (goodIn_ca (goodIn_ca (goodIn_ca (goodIn_r _ [386, 233, 313, 86, 122, 387, 388, 389, 2, 390, 22, 138, 23, 238, 240, 241, 242, 243, 244, 245, 20, 391, 392, 393, 394, 318, 319, 349, 350, 351, 352, 18, 158, 159, 160, 16, 161, 41, 395, 396, 397, 91, 92, 141, 142, 143, 144, 136, 137, 21, 398, 399, 400, 401, 30, 17, 402, 403, 404, 29, 405, 55, 56, 406, 53, 52, 407, 54, 51, 408, 150, 151, 152, 153, 128, 129, 130, 131, 43, 44, 45, 40, 154, 99, 100, 101, 409, 332, 333, 334, 182, 94, 95, 96, 97, 410, 247, 248, 249, 250, 251, 37, 252, 35, 36, 38, 411, 179, 180, 181, 412, 413, 414, 415, 416, 417, 418, 419, 59, 57, 420, 421, 422, 423, 424, 425, 426, 427, 428, 429, 172, 173, 174, 430, 431, 432, 433, 176, 177, 434, 435, 436, 437, 438, 439, 440, 441, 442, 443, 149, 132, 133, 134, 135, 19, 139, 140, 145, 146, 147, 148, 24, 25, 26, 155, 156, 157, 162, 163, 164, 165, 166, 167, 168, 169, 170, 171, 175, 178, 183, 184, 185, 186, 187, 188, 189, 190, 191, 192, 12, 13, 193, 15, 194, 195, 196, 197, 198, 34, 39, 199, 558, 559, 560, 561, 562, 563, 564, 565, 566, 567, 588, 589, 598, 599, 590, 591, 592, 593, 594, 595, 596, 597] (by decide +kernel) (by decide +kernel)) (goodIn_sub (fun _ h => List.mem_append_left _ (List.mem_append_right _ h)) (by decide +kernel))) (goodIn_sub (fun _ h => List.mem_append_right _ h) (by decide +kernel))) (goodIn_sub (fun _ h => List.mem_append_left _ (List.mem_append_left _ (List.mem_append_left _ (List.mem_append_right _ h)))) (by decide +kernel))) (goodIn_sub (fun _ h => List.mem_append_left _ (List.mem_append_left _ (List.mem_append_right _ h))) (by decide +kernel))
set_option maxRecDepth 20000 in
theorem gL_law_L_find : GoodIn wsL_law (va_wsS RL 118 yL_find wsL_find) := goodIn_app (goodIn_of _ (by decide +kernel)) ggL_law_L_find
set_option maxRecDepth 20000 in
theorem gh_X5_find_0 : GoodIn wsL_law [Cond.code yX5_find cX5_find 5 (some .int)] := goodIn_r _ [447] (by decide +kernel) (by decide +kernel)
set_option maxRecDepth 20000 in
theorem gh_wsX5_find_r1 : GoodIn wsL_law wsX5_find_r1 := goodIn_r _ [448, 211, 449, 69, 78, 77, 70, 450, 451, 452, 5, 453, 71, 107, 258, 259, 260, 261, 262, 263, 264, 265, 108, 109] (by decide +kernel) (by decide +kernel)
set_option maxRecDepth 20000 in
theorem gh_wsX5_find_r2 : GoodIn wsL_law wsX5_find_r2 := goodIn_r _ [110, 270, 271, 272, 273, 65, 274, 275, 276, 212, 213, 214, 361, 362, 363, 364, 68, 215, 216, 217, 218, 454, 455, 456] (by decide +kernel) (by decide +kernel)
set_option maxRecDepth 20000 in
theorem gh_wsX5_find_r3 : GoodIn wsL_law wsX5_find_r3 := goodIn_r _ [457, 79, 80, 67, 72, 74, 73, 81, 114, 285, 286, 287, 339, 340, 341, 281, 282, 283, 284, 204, 205, 206, 277, 278] (by decide +kernel) (by decide +kernel)
set_option maxRecDepth 20000 in
theorem gh_wsX5_find_r4 : GoodIn wsL_law wsX5_find_r4 := goodIn_r _ [279, 280, 66, 458, 459, 460, 461, 296, 297, 298, 111, 112, 113, 288, 289, 290, 291, 75, 76, 292, 293, 294, 295, 207] (by decide +kernel) (by decide +kernel)
set_option maxRecDepth 20000 in
theorem gh_wsX5_find_r5 : GoodIn wsL_law wsX5_find_r5 := goodIn_r _ [208, 209, 210] (by decide +kernel) (by decide +kernel)
set_option maxRecDepth 20000 in
theorem gh_X5_find_t : GoodIn wsL_law wsX50 := goodIn_r _ [568, 569, 570, 571, 572, 573, 574, 575, 576, 577, 578, 579, 580, 581, 582, 583, 584, 585, 586, 587] (by decide +kernel) (by decide +kernel)
theorem ggL_law_X5_find : GoodIn wsL_law wsX5_find := goodIn_app (a := [Cond.code yX5_find cX5_find 5 (some .int)]) gh_X5_find_0 (goodIn_app (goodIn_app gh_wsX5_find_r1 (goodIn_app gh_wsX5_find_r2 (goodIn_app gh_wsX5_find_r3 (goodIn_app gh_wsX5_find_r4 gh_wsX5_find_r5)))) gh_X5_find_t)
set_option maxRecDepth 20000 in
theorem gL_law_X5_find : GoodIn wsL_law (wsV RL 121 RX5 yX5_find wsX5_find) := goodIn_app (goodIn_of _ (by decide +kernel)) ggL_law_X5_find
