/-! ===== the callees' words among the law's, on ===== -/
set_option maxRecDepth 20000 in
theorem gL_law_X5_step : GoodIn wsL_law (wsV RL 114 RX5 yX5_step wsX5_step) := goodIn_app (goodIn_of _ (by decide +kernel)) ggL_law_X5_step
set_option maxRecDepth 20000 in
theorem ggL_law_L_proves : GoodIn wsL_law wsL_proves := goodIn_ca (goodIn_ca (goodIn_r _ [371, 233, 313, 372, 373, 374, 2, 375, 24, 238, 23, 25, 239, 22, 240, 241, 242, 243, 244, 245, 20, 349, 350, 351, 352, 318, 319, 18, 158, 159, 160, 16, 161, 41, 353, 354, 355, 356, 17, 149, 150, 151, 152, 153, 128, 129, 130, 131, 43, 44, 45, 40, 154, 99, 100, 101, 331, 332, 333, 334, 182, 94, 95, 96, 97, 246, 247, 248, 249, 250, 251, 37, 252, 35, 36, 38, 253, 179, 180, 181, 376, 377, 378, 379, 558, 559, 560, 561, 562, 563, 564, 565, 566, 567, 598, 599, 588, 589] (by decide +kernel) (by decide +kernel)) (goodIn_sub (fun _ h => List.mem_append_left _ (List.mem_append_right _ h)) (by decide +kernel))) (goodIn_sub (fun _ h => List.mem_append_right _ h) (by decide +kernel))
set_option maxRecDepth 20000 in
theorem gL_law_L_proves : GoodIn wsL_law (va_wsS RL 115 yL_proves wsL_proves) := goodIn_app (goodIn_of _ (by decide +kernel)) ggL_law_L_proves
set_option maxRecDepth 20000 in
theorem ggL_law_X5_proves : GoodIn wsL_law wsX5_proves := goodIn_r _ [383, 107, 69, 70, 65, 66, 258, 259, 260, 5, 261, 262, 263, 264, 265, 211, 108, 109, 110, 361, 362, 363, 364, 68, 270, 271, 272, 273, 274, 275, 276, 277, 278, 279, 280, 365, 366, 367, 368, 72, 73, 71, 67, 74, 114, 285, 286, 287, 339, 340, 341, 281, 282, 283, 284, 204, 205, 206, 212, 213, 214, 288, 289, 290, 291, 75, 76, 292, 293, 294, 295, 296, 297, 298, 111, 112, 113, 568, 569, 570, 571, 572, 573, 574, 575, 576, 577, 578, 579, 580, 581, 582, 583, 584, 585, 586, 587] (by decide +kernel) (by decide +kernel)
set_option maxRecDepth 20000 in
theorem gL_law_X5_proves : GoodIn wsL_law (wsV RL 117 RX5 yX5_proves wsX5_proves) := goodIn_app (goodIn_of _ (by decide +kernel)) ggL_law_X5_proves
set_option maxRecDepth 20000 in
theorem ggL_law_L_find : GoodIn wsL_law wsL_find := goodIn_ca (goodIn_ca (goodIn_ca (goodIn_ca (goodIn_r _ [386, 233, 313, 86, 122, 387, 388, 389, 2, 390, 22, 138, 23, 238, 240, 241, 242, 243, 244, 245, 20, 391, 392, 393, 394, 318, 319, 349, 350, 351, 352, 18, 158, 159, 160, 16, 161, 41, 395, 396, 397, 91, 92, 141, 142, 143, 144, 136, 137, 21, 398, 399, 400, 401, 30, 17, 402, 403, 404, 29, 405, 55, 56, 406, 53, 52, 407, 54, 51, 408, 150, 151, 152, 153, 128, 129, 130, 131, 43, 44, 45, 40, 154, 99, 100, 101, 409, 332, 333, 334, 182, 94, 95, 96, 97, 410, 247, 248, 249, 250, 251, 37, 252, 35, 36, 38, 411, 179, 180, 181, 412, 413, 414, 415, 416, 417, 418, 419, 59, 57, 420, 421, 422, 423, 424, 425, 426, 427, 428, 429, 172, 173, 174, 430, 431, 432, 433, 176, 177, 434, 435, 436, 437, 438, 439, 440, 441, 442, 443, 149, 132, 133, 134, 135, 19, 139, 140, 145, 146, 147, 148, 24, 25, 26, 155, 156, 157, 162, 163, 164, 165, 166, 167, 168, 169, 170, 171, 175, 178, 183, 184, 185, 186, 187, 188, 189, 190, 191, 192, 12, 13, 193, 15, 194, 195, 196, 197, 198, 34, 39, 199, 558, 559, 560, 561, 562, 563, 564, 565, 566, 567, 588, 589, 598, 599, 590, 591, 592, 593, 594, 595, 596, 597] (by decide +kernel) (by decide +kernel)) (goodIn_sub (fun _ h => List.mem_append_left _ (List.mem_append_right _ h)) (by decide +kernel))) (goodIn_sub (fun _ h => List.mem_append_right _ h) (by decide +kernel))) (goodIn_sub (fun _ h => List.mem_append_left _ (List.mem_append_left _ (List.mem_append_left _ (List.mem_append_right _ h)))) (by decide +kernel))) (goodIn_sub (fun _ h => List.mem_append_left _ (List.mem_append_left _ (List.mem_append_right _ h))) (by decide +kernel))
set_option maxRecDepth 20000 in
theorem gL_law_L_find : GoodIn wsL_law (va_wsS RL 118 yL_find wsL_find) := goodIn_app (goodIn_of _ (by decide +kernel)) ggL_law_L_find
set_option maxRecDepth 20000 in
theorem ggL_law_X5_find : GoodIn wsL_law wsX5_find := goodIn_r _ [447, 448, 211, 449, 69, 78, 77, 70, 450, 451, 452, 5, 453, 71, 107, 258, 259, 260, 261, 262, 263, 264, 265, 108, 109, 110, 270, 271, 272, 273, 65, 274, 275, 276, 212, 213, 214, 361, 362, 363, 364, 68, 215, 216, 217, 218, 454, 455, 456, 457, 79, 80, 67, 72, 74, 73, 81, 114, 285, 286, 287, 339, 340, 341, 281, 282, 283, 284, 204, 205, 206, 277, 278, 279, 280, 66, 458, 459, 460, 461, 296, 297, 298, 111, 112, 113, 288, 289, 290, 291, 75, 76, 292, 293, 294, 295, 207, 208, 209, 210, 568, 569, 570, 571, 572, 573, 574, 575, 576, 577, 578, 579, 580, 581, 582, 583, 584, 585, 586, 587] (by decide +kernel) (by decide +kernel)
set_option maxRecDepth 20000 in
theorem gL_law_X5_find : GoodIn wsL_law (wsV RL 121 RX5 yX5_find wsX5_find) := goodIn_app (goodIn_of _ (by decide +kernel)) ggL_law_X5_find
set_option maxRecDepth 20000 in
theorem ggL_law_L_least : GoodIn wsL_law wsL_least := goodIn_ca (goodIn_ca (goodIn_r _ [464, 233, 313, 465, 466, 467, 2, 468, 22, 138, 469, 36, 37, 38, 240, 241, 242, 243, 244, 245, 20, 391, 392, 393, 394, 318, 319, 238, 349, 350, 351, 352, 18, 158, 159, 160, 16, 161, 41, 398, 399, 400, 401, 30, 17, 402, 403, 404, 29, 405, 55, 56, 406, 53, 52, 407, 54, 51, 408, 150, 151, 152, 153, 128, 129, 130, 131, 43, 44, 45, 40, 154, 99, 100, 101, 409, 332, 333, 334, 182, 94, 95, 96, 97, 410, 247, 248, 249, 250, 251, 252, 35, 411, 179, 180, 181, 412, 413, 414, 415, 416, 417, 418, 419, 59, 57, 420, 421, 422, 423, 424, 425, 426, 427, 428, 429, 172, 173, 174, 430, 431, 432, 433, 176, 177, 434, 435, 436, 437, 438, 439, 440, 441, 442, 443, 558, 559, 560, 561, 562, 563, 564, 565, 566, 567, 588, 589, 598, 599, 590, 591, 592, 593, 594, 595, 596, 597] (by decide +kernel) (by decide +kernel)) (goodIn_sub (fun _ h => List.mem_append_left _ (List.mem_append_right _ h)) (by decide +kernel))) (goodIn_sub (fun _ h => List.mem_append_right _ h) (by decide +kernel))
set_option maxRecDepth 20000 in
theorem gL_law_L_least : GoodIn wsL_law (va_wsS RL 122 yL_least wsL_least) := goodIn_app (goodIn_of _ (by decide +kernel)) ggL_law_L_least
set_option maxRecDepth 20000 in
theorem ggL_law_X5_least : GoodIn wsL_law wsX5_least := goodIn_r _ [473, 449, 450, 451, 452, 5, 453, 71, 107, 258, 259, 260, 261, 262, 263, 264, 265, 211, 108, 109, 110, 270, 271, 272, 273, 65, 274, 275, 276, 212, 213, 214, 361, 362, 363, 364, 68, 454, 455, 456, 457, 79, 80, 67, 72, 74, 73, 81, 69, 70, 77, 114, 285, 286, 287, 339, 340, 341, 281, 282, 283, 284, 204, 205, 206, 277, 278, 279, 280, 66, 458, 459, 460, 461, 78, 296, 297, 298, 111, 112, 113, 568, 569, 570, 571, 572, 573, 574, 575, 576, 577, 578, 579, 580, 581, 582, 583, 584, 585, 586, 587] (by decide +kernel) (by decide +kernel)
set_option maxRecDepth 20000 in
theorem gL_law_X5_least : GoodIn wsL_law (wsV RL 124 RX5 yX5_least wsX5_least) := goodIn_app (goodIn_of _ (by decide +kernel)) ggL_law_X5_least
set_option maxRecDepth 20000 in
theorem ggL_law_L_free : GoodIn wsL_law wsL_free := goodIn_ca (goodIn_ca (goodIn_ca (goodIn_r _ [476, 233, 313, 86, 477, 478, 479, 2, 480, 30, 238, 17, 18, 240, 241, 242, 243, 244, 245, 20, 391, 392, 393, 394, 318, 319, 349, 350, 351, 352, 158, 159, 160, 16, 161, 41, 395, 396, 397, 91, 92, 402, 403, 404, 29, 405, 55, 56, 406, 53, 52, 407, 54, 51, 408, 150, 151, 152, 153, 128, 129, 130, 131, 43, 44, 45, 40, 154, 99, 100, 101, 409, 332, 333, 334, 182, 94, 95, 96, 97, 410, 247, 248, 249, 250, 251, 37, 252, 35, 36, 38, 411, 179, 180, 181, 412, 413, 414, 415, 416, 417, 418, 419, 59, 57, 420, 421, 422, 423, 424, 425, 426, 427, 428, 429, 172, 173, 174, 430, 431, 432, 433, 176, 177, 434, 481, 482, 483, 484, 558, 559, 560, 561, 562, 563, 564, 565, 566, 567, 598, 599, 588, 589, 590, 591, 592, 593, 594, 595, 596, 597] (by decide +kernel) (by decide +kernel)) (goodIn_sub (fun _ h => List.mem_append_left _ (List.mem_append_right _ h)) (by decide +kernel))) (goodIn_sub (fun _ h => List.mem_append_right _ h) (by decide +kernel))) (goodIn_sub (fun _ h => List.mem_append_left _ (List.mem_append_left _ (List.mem_append_left _ (List.mem_append_right _ h)))) (by decide +kernel))
set_option maxRecDepth 20000 in
theorem gL_law_L_free : GoodIn wsL_law (va_wsS RL 125 yL_free wsL_free) := goodIn_app (goodIn_of _ (by decide +kernel)) ggL_law_L_free
set_option maxRecDepth 20000 in
theorem ggL_law_X5_free : GoodIn wsL_law wsX5_free := goodIn_r _ [488, 448, 450, 451, 452, 5, 453, 71, 107, 258, 259, 260, 261, 262, 263, 264, 265, 211, 108, 109, 110, 270, 271, 272, 273, 65, 274, 275, 276, 212, 213, 214, 361, 362, 363, 364, 68, 215, 216, 217, 218, 454, 455, 456, 457, 79, 80, 67, 72, 74, 73, 81, 69, 70, 77, 114, 285, 286, 287, 339, 340, 341, 281, 282, 283, 284, 204, 205, 206, 277, 278, 279, 280, 66, 458, 459, 460, 461, 78, 449, 296, 297, 298, 111, 112, 113, 568, 569, 570, 571, 572, 573, 574, 575, 576, 577, 578, 579, 580, 581, 582, 583, 584, 585, 586, 587] (by decide +kernel) (by decide +kernel)
set_option maxRecDepth 20000 in
theorem gL_law_X5_free : GoodIn wsL_law (wsV RL 127 RX5 yX5_free wsX5_free) := goodIn_app (goodIn_of _ (by decide +kernel)) ggL_law_X5_free
set_option maxRecDepth 20000 in
theorem ggL_law_L_degree : GoodIn wsL_law wsL_degree := goodIn_ca (goodIn_r _ [491, 233, 492, 493, 494, 2, 495, 138, 240, 241, 242, 243, 244, 245, 20, 496, 497, 498, 140, 499, 194, 195, 588, 589, 558, 559, 560, 561, 562, 563, 564, 565, 566, 567, 598, 599] (by decide +kernel) (by decide +kernel)) (goodIn_sub (fun _ h => List.mem_append_left _ (List.mem_append_right _ h)) (by decide +kernel))
set_option maxRecDepth 20000 in
theorem gL_law_L_degree : GoodIn wsL_law (va_wsS RL 128 yL_degree wsL_degree) := goodIn_app (goodIn_of _ (by decide +kernel)) ggL_law_L_degree
set_option maxRecDepth 20000 in
theorem ggL_law_X5_degree : GoodIn wsL_law wsX5_degree := goodIn_r _ [503, 69, 258, 259, 260, 5, 261, 107, 262, 263, 264, 265, 211, 108, 109, 110, 504, 505, 506, 507, 270, 271, 272, 273, 65, 274, 275, 276, 277, 278, 279, 280, 66, 212, 213, 214, 568, 569, 570, 571, 572, 573, 574, 575, 576, 577, 578, 579, 580, 581, 582, 583, 584, 585, 586, 587] (by decide +kernel) (by decide +kernel)
set_option maxRecDepth 20000 in
theorem gL_law_X5_degree : GoodIn wsL_law (wsV RL 131 RX5 yX5_degree wsX5_degree) := goodIn_app (goodIn_of _ (by decide +kernel)) ggL_law_X5_degree
set_option maxRecDepth 20000 in
theorem ggL_law_L_at : GoodIn wsL_law wsL_at := goodIn_ca (goodIn_r _ [510, 233, 511, 512, 513, 2, 514, 240, 241, 242, 243, 244, 245, 20, 496, 497, 498, 140, 499, 194, 195, 98, 99, 100, 16, 101, 40, 558, 559, 560, 561, 562, 563, 564, 565, 566, 567, 598, 599, 588, 589] (by decide +kernel) (by decide +kernel)) (goodIn_sub (fun _ h => List.mem_append_left _ (List.mem_append_right _ h)) (by decide +kernel))
set_option maxRecDepth 20000 in
theorem gL_law_L_at : GoodIn wsL_law (va_wsS RL 132 yL_at wsL_at) := goodIn_app (goodIn_of _ (by decide +kernel)) ggL_law_L_at
set_option maxRecDepth 20000 in
theorem ggL_law_X5_at : GoodIn wsL_law wsX5_at := goodIn_r _ [518, 519, 69, 258, 259, 260, 5, 261, 107, 262, 263, 264, 265, 211, 108, 109, 110, 504, 505, 506, 507, 270, 271, 272, 273, 65, 274, 275, 276, 277, 278, 279, 280, 66, 568, 569, 570, 571, 572, 573, 574, 575, 576, 577, 578, 579, 580, 581, 582, 583, 584, 585, 586, 587] (by decide +kernel) (by decide +kernel)
set_option maxRecDepth 20000 in
theorem gL_law_X5_at : GoodIn wsL_law (wsV RL 135 RX5 yX5_at wsX5_at) := goodIn_app (goodIn_of _ (by decide +kernel)) ggL_law_X5_at
set_option maxRecDepth 20000 in
theorem ggL_law_L_value : GoodIn wsL_law wsL_value := goodIn_ca (goodIn_r _ [522, 233, 523, 524, 525, 2, 526, 239, 238, 240, 241, 242, 243, 244, 245, 20, 93, 94, 95, 96, 97, 527, 528, 529, 16, 530, 41, 154, 99, 100, 101, 40, 182, 184, 172, 173, 174, 531, 176, 177, 598, 599, 558, 559, 560, 561, 562, 563, 564, 565, 566, 567, 588, 589] (by decide +kernel) (by decide +kernel)) (goodIn_sub (fun _ h => List.mem_append_left _ (List.mem_append_right _ h)) (by decide +kernel))
set_option maxRecDepth 20000 in
theorem gL_law_L_value : GoodIn wsL_law (va_wsS RL 136 yL_value wsL_value) := goodIn_app (goodIn_of _ (by decide +kernel)) ggL_law_L_value
set_option maxRecDepth 20000 in
theorem ggL_law_X5_value : GoodIn wsL_law wsX5_value := goodIn_r _ [535, 69, 114, 258, 259, 260, 5, 261, 107, 262, 263, 264, 265, 211, 108, 109, 110, 504, 505, 506, 507, 270, 271, 272, 273, 65, 274, 275, 276, 277, 278, 279, 280, 66, 111, 112, 113, 536, 537, 538, 296, 297, 298, 568, 569, 570, 571, 572, 573, 574, 575, 576, 577, 578, 579, 580, 581, 582, 583, 584, 585, 586, 587] (by decide +kernel) (by decide +kernel)
set_option maxRecDepth 20000 in
theorem gL_law_X5_value : GoodIn wsL_law (wsV RL 139 RX5 yX5_value wsX5_value) := goodIn_app (goodIn_of _ (by decide +kernel)) ggL_law_X5_value
set_option maxRecDepth 20000 in
theorem ggL_law_L_same : GoodIn wsL_law wsL_same := goodIn_ca (goodIn_r _ [541, 233, 542, 543, 544, 2, 545, 238, 239, 240, 241, 242, 243, 244, 245, 20, 376, 377, 378, 16, 379, 41, 154, 99, 100, 101, 40, 598, 599, 558, 559, 560, 561, 562, 563, 564, 565, 566, 567, 588, 589] (by decide +kernel) (by decide +kernel)) (goodIn_sub (fun _ h => List.mem_append_left _ (List.mem_append_right _ h)) (by decide +kernel))
set_option maxRecDepth 20000 in
theorem gL_law_L_same : GoodIn wsL_law (va_wsS RL 140 yL_same wsL_same) := goodIn_app (goodIn_of _ (by decide +kernel)) ggL_law_L_same
set_option maxRecDepth 20000 in
theorem ggL_law_X5_same : GoodIn wsL_law wsX5_same := goodIn_r _ [549, 65, 66, 258, 259, 260, 5, 261, 107, 262, 263, 264, 265, 211, 108, 109, 110, 568, 569, 570, 571, 572, 573, 574, 575, 576, 577, 578, 579, 580, 581, 582, 583, 584, 585, 586, 587] (by decide +kernel) (by decide +kernel)
set_option maxRecDepth 20000 in
theorem gL_law_X5_same : GoodIn wsL_law (wsV RL 142 RX5 yX5_same wsX5_same) := goodIn_app (goodIn_of _ (by decide +kernel)) ggL_law_X5_same
set_option maxRecDepth 20000 in
theorem ggL_law_X4_count : GoodIn wsL_law wsX4_count := goodIn_r _ [553, 21, 558, 559, 560, 561, 562, 563, 564, 565, 566, 567] (by decide +kernel) (by decide +kernel)
set_option maxRecDepth 20000 in
theorem gL_law_X4_count : GoodIn wsL_law (wsV RL 143 RX4 yX4_count wsX4_count) := goodIn_app (goodIn_of _ (by decide +kernel)) ggL_law_X4_count
set_option maxRecDepth 20000 in
theorem ggL_law_X5_count : GoodIn wsL_law wsX5_count := goodIn_r _ [557, 107, 211, 568, 569, 570, 571, 572, 573, 574, 575, 576, 577, 578, 579, 580, 581, 582, 583, 584, 585, 586, 587] (by decide +kernel) (by decide +kernel)
set_option maxRecDepth 20000 in
theorem gL_law_X5_count : GoodIn wsL_law (wsV RL 146 RX5 yX5_count wsX5_count) := goodIn_app (goodIn_of _ (by decide +kernel)) ggL_law_X5_count
