set_option maxRecDepth 20000 in
theorem ggL_law_L_violations : GoodIn wsL_law wsL_violations := goodIn_ca (goodIn_r _ [399, 50, 400, 401, 402, 2, 403, 55, 56, 14, 16, 57, 58, 59, 63, 64, 65, 127, 128, 129, 130, 131, 132, 133, 562, 563, 564, 565, 566, 567, 568, 569, 570, 571, 572, 573, 574, 575, 576, 577] (by decide +kernel) (by decide +kernel)) (goodIn_sub (fun _ h => List.mem_append_left _ (List.mem_append_left _ (List.mem_append_right _ h))) (by decide +kernel))
set_option maxRecDepth 20000 in
theorem gL_law_L_violations : GoodIn wsL_law (va_wsS RL 147 yL_violations wsL_violations) := goodIn_app (goodIn_r _ [397, 398, 48] (by decide +kernel) (by decide +kernel)) ggL_law_L_violations
set_option maxRecDepth 20000 in
theorem ggL_law_X1_violations : GoodIn wsL_law wsX1_violations := goodIn_r _ [407, 34, 36, 73, 74, 75, 5, 76, 77, 78, 79, 80, 85, 86, 87, 88, 89, 90, 91, 92, 93, 138, 139, 140, 141, 578, 579, 580, 581, 582, 583, 584, 585, 586, 587, 588, 589, 590, 591, 592, 593] (by decide +kernel) (by decide +kernel)
set_option maxRecDepth 20000 in
theorem gL_law_X1_violations : GoodIn wsL_law (wsV RL 149 RX1 yX1_violations wsX1_violations) := goodIn_app (goodIn_r _ [404, 405, 406, 5] (by decide +kernel) (by decide +kernel)) ggL_law_X1_violations
set_option maxRecDepth 20000 in
theorem ggL_law_X0_quarter : GoodIn wsL_law wsX0_quarter := goodIn_r _ [411, 21, 562, 563, 564, 565, 566, 567, 568, 569, 570, 571, 572, 573, 574, 575, 576, 577] (by decide +kernel) (by decide +kernel)
set_option maxRecDepth 20000 in
theorem gL_law_X0_quarter : GoodIn wsL_law (wsV RL 150 RX0 yX0_quarter wsX0_quarter) := goodIn_app (goodIn_r _ [408, 409, 410, 2] (by decide +kernel) (by decide +kernel)) ggL_law_X0_quarter
set_option maxRecDepth 20000 in
theorem ggL_law_X1_quarter : GoodIn wsL_law wsX1_quarter := goodIn_r _ [415, 98, 374, 375, 376, 5, 377, 89, 578, 579, 580, 581, 582, 583, 584, 585, 586, 587, 588, 589, 590, 591, 592, 593] (by decide +kernel) (by decide +kernel)
set_option maxRecDepth 20000 in
theorem gL_law_X1_quarter : GoodIn wsL_law (wsV RL 153 RX1 yX1_quarter wsX1_quarter) := goodIn_app (goodIn_r _ [412, 413, 414, 5] (by decide +kernel) (by decide +kernel)) ggL_law_X1_quarter
set_option maxRecDepth 20000 in
theorem ggL_law_L_due : GoodIn wsL_law wsL_due := goodIn_ca (goodIn_r _ [418, 50, 419, 420, 421, 2, 422, 55, 56, 21, 57, 58, 59, 210, 211, 212, 213, 15, 14, 20, 66, 67, 68, 63, 64, 65, 562, 563, 564, 565, 566, 567, 568, 569, 570, 571, 572, 573, 574, 575, 576, 577] (by decide +kernel) (by decide +kernel)) (goodIn_sub (fun _ h => List.mem_append_left _ (List.mem_append_left _ (List.mem_append_right _ h))) (by decide +kernel))
set_option maxRecDepth 20000 in
theorem gL_law_L_due : GoodIn wsL_law (va_wsS RL 154 yL_due wsL_due) := goodIn_app (goodIn_r _ [416, 417, 48] (by decide +kernel) (by decide +kernel)) ggL_law_L_due
set_option maxRecDepth 20000 in
theorem ggL_law_X1_due : GoodIn wsL_law wsX1_due := goodIn_r _ [426, 98, 73, 74, 75, 5, 76, 77, 78, 79, 80, 85, 86, 87, 88, 89, 218, 219, 220, 221, 34, 35, 45, 90, 91, 92, 93, 578, 579, 580, 581, 582, 583, 584, 585, 586, 587, 588, 589, 590, 591, 592, 593] (by decide +kernel) (by decide +kernel)
set_option maxRecDepth 20000 in
theorem gL_law_X1_due : GoodIn wsL_law (wsV RL 156 RX1 yX1_due wsX1_due) := goodIn_app (goodIn_r _ [423, 424, 425, 5] (by decide +kernel) (by decide +kernel)) ggL_law_X1_due
set_option maxRecDepth 20000 in
theorem ggL_law_X0_candidates : GoodIn wsL_law wsX0_candidates := goodIn_r _ [430, 25, 227, 228, 229, 2, 230, 19, 24, 231, 232, 233, 234, 14, 63, 64, 65, 235, 236, 237, 238, 239, 240, 241, 242, 127, 128, 129, 130, 131, 132, 133, 243, 244, 245, 246, 16, 247, 248, 249, 250, 251, 252, 253, 26, 27, 254, 255, 256, 257, 258, 259, 260, 261, 262, 263, 28, 29, 562, 563, 564, 565, 566, 567, 568, 569, 570, 571, 572, 573, 574, 575, 576, 577] (by decide +kernel) (by decide +kernel)
set_option maxRecDepth 20000 in
theorem gL_law_X0_candidates : GoodIn wsL_law (wsV RL 157 RX0 yX0_candidates wsX0_candidates) := goodIn_app (goodIn_r _ [427, 428, 429, 2] (by decide +kernel) (by decide +kernel)) ggL_law_X0_candidates
set_option maxRecDepth 20000 in
theorem ggL_law_X1_candidates : GoodIn wsL_law wsX1_candidates := goodIn_r _ [434, 283, 285, 286, 287, 5, 288, 39, 34, 44, 38, 90, 91, 92, 93, 289, 290, 291, 292, 36, 293, 294, 295, 296, 297, 298, 299, 300, 138, 139, 140, 141, 374, 375, 376, 377, 89, 578, 579, 580, 581, 582, 583, 584, 585, 586, 587, 588, 589, 590, 591, 592, 593] (by decide +kernel) (by decide +kernel)
set_option maxRecDepth 20000 in
theorem gL_law_X1_candidates : GoodIn wsL_law (wsV RL 160 RX1 yX1_candidates wsX1_candidates) := goodIn_app (goodIn_r _ [431, 432, 433, 5] (by decide +kernel) (by decide +kernel)) ggL_law_X1_candidates
set_option maxRecDepth 20000 in
theorem ggL_law_L_candidate : GoodIn wsL_law wsL_candidate := goodIn_ca (goodIn_r _ [437, 50, 438, 439, 440, 2, 441, 55, 56, 25, 24, 227, 228, 229, 230, 19, 231, 232, 233, 234, 14, 63, 64, 65, 235, 236, 237, 238, 239, 240, 241, 242, 127, 128, 129, 130, 131, 132, 133, 243, 244, 245, 246, 16, 247, 248, 249, 250, 251, 252, 253, 26, 27, 254, 255, 256, 257, 258, 259, 260, 261, 262, 263, 28, 29, 562, 563, 564, 565, 566, 567, 568, 569, 570, 571, 572, 573, 574, 575, 576, 577] (by decide +kernel) (by decide +kernel)) (goodIn_sub (fun _ h => List.mem_append_left _ (List.mem_append_left _ (List.mem_append_right _ h))) (by decide +kernel))
set_option maxRecDepth 20000 in
theorem gL_law_L_candidate : GoodIn wsL_law (va_wsS RL 161 yL_candidate wsL_candidate) := goodIn_app (goodIn_r _ [435, 436, 48] (by decide +kernel) (by decide +kernel)) ggL_law_L_candidate
set_option maxRecDepth 20000 in
theorem ggL_law_X1_candidate : GoodIn wsL_law wsX1_candidate := goodIn_r _ [445, 283, 38, 285, 286, 287, 5, 288, 39, 34, 44, 90, 91, 92, 93, 289, 290, 291, 292, 36, 293, 294, 295, 296, 297, 298, 299, 300, 138, 139, 140, 141, 77, 78, 79, 80, 85, 86, 87, 88, 89, 578, 579, 580, 581, 582, 583, 584, 585, 586, 587, 588, 589, 590, 591, 592, 593] (by decide +kernel) (by decide +kernel)
set_option maxRecDepth 20000 in
theorem gL_law_X1_candidate : GoodIn wsL_law (wsV RL 163 RX1 yX1_candidate wsX1_candidate) := goodIn_app (goodIn_r _ [442, 443, 444, 5] (by decide +kernel) (by decide +kernel)) ggL_law_X1_candidate
set_option maxRecDepth 20000 in
theorem ggL_law_L_holders : GoodIn wsL_law wsL_holders := goodIn_ca (goodIn_r _ [448, 117, 449, 450, 451, 2, 452, 122, 123, 124, 125, 126, 235, 236, 237, 238, 239, 240, 241, 242, 14, 562, 563, 564, 565, 566, 567, 568, 569, 570, 571, 572, 573, 574, 575, 576, 577] (by decide +kernel) (by decide +kernel)) (goodIn_sub (fun _ h => List.mem_append_left _ (List.mem_append_right _ h)) (by decide +kernel))
set_option maxRecDepth 20000 in
theorem gL_law_L_holders : GoodIn wsL_law (va_wsS RL 164 yL_holders wsL_holders) := goodIn_app (goodIn_r _ [446, 447, 48] (by decide +kernel) (by decide +kernel)) ggL_law_L_holders
set_option maxRecDepth 20000 in
theorem ggL_law_X1_holders : GoodIn wsL_law wsX1_holders := goodIn_r _ [456, 77, 78, 79, 5, 80, 85, 86, 87, 88, 89, 293, 294, 295, 296, 297, 298, 299, 300, 34, 578, 579, 580, 581, 582, 583, 584, 585, 586, 587, 588, 589, 590, 591, 592, 593] (by decide +kernel) (by decide +kernel)
set_option maxRecDepth 20000 in
theorem gL_law_X1_holders : GoodIn wsL_law (wsV RL 166 RX1 yX1_holders wsX1_holders) := goodIn_app (goodIn_r _ [453, 454, 455, 5] (by decide +kernel) (by decide +kernel)) ggL_law_X1_holders
set_option maxRecDepth 20000 in
theorem ggL_law_L_costOf : GoodIn wsL_law wsL_costOf := goodIn_ca (goodIn_ca (goodIn_r _ [459, 192, 117, 460, 461, 462, 2, 463, 197, 198, 122, 123, 25, 227, 228, 229, 230, 19, 24, 231, 232, 233, 234, 14, 63, 64, 65, 235, 236, 237, 238, 239, 240, 241, 242, 127, 128, 129, 130, 131, 132, 133, 243, 244, 245, 246, 16, 247, 248, 249, 250, 251, 252, 253, 26, 27, 254, 255, 256, 257, 258, 259, 260, 261, 262, 263, 28, 29, 332, 333, 334, 335, 226, 275, 276, 277, 278, 17, 18, 268, 269, 270, 271, 272, 273, 274, 562, 563, 564, 565, 566, 567, 568, 569, 570, 571, 572, 573, 574, 575, 576, 577] (by decide +kernel) (by decide +kernel)) (goodIn_sub (fun _ h => List.mem_append_right _ h) (by decide +kernel))) (goodIn_sub (fun _ h => List.mem_append_left _ (List.mem_append_right _ h)) (by decide +kernel))
set_option maxRecDepth 20000 in
theorem gL_law_L_costOf : GoodIn wsL_law (va_wsS RL 167 yL_costOf wsL_costOf) := goodIn_app (goodIn_r _ [457, 458, 48] (by decide +kernel) (by decide +kernel)) ggL_law_L_costOf
set_option maxRecDepth 20000 in
theorem ggL_law_X1_costOf : GoodIn wsL_law wsX1_costOf := goodIn_r _ [467, 283, 350, 351, 352, 5, 353, 285, 286, 287, 288, 39, 34, 44, 38, 90, 91, 92, 93, 289, 290, 291, 292, 36, 293, 294, 295, 296, 297, 298, 299, 300, 138, 139, 140, 141, 85, 86, 87, 88, 89, 358, 359, 360, 361, 42, 43, 301, 302, 303, 304, 40, 309, 310, 311, 312, 313, 314, 315, 316, 578, 579, 580, 581, 582, 583, 584, 585, 586, 587, 588, 589, 590, 591, 592, 593] (by decide +kernel) (by decide +kernel)
set_option maxRecDepth 20000 in
theorem gL_law_X1_costOf : GoodIn wsL_law (wsV RL 169 RX1 yX1_costOf wsX1_costOf) := goodIn_app (goodIn_r _ [464, 465, 466, 5] (by decide +kernel) (by decide +kernel)) ggL_law_X1_costOf
set_option maxRecDepth 20000 in
theorem ggL_law_L_leastCost : GoodIn wsL_law wsL_leastCost := goodIn_ca (goodIn_r _ [470, 192, 471, 472, 473, 2, 474, 197, 198, 25, 227, 228, 229, 230, 19, 24, 231, 232, 233, 234, 14, 63, 64, 65, 235, 236, 237, 238, 239, 240, 241, 242, 127, 128, 129, 130, 131, 132, 133, 243, 244, 245, 246, 16, 247, 248, 249, 250, 251, 252, 253, 26, 27, 254, 255, 256, 257, 258, 259, 260, 261, 262, 263, 28, 29, 324, 325, 326, 327, 328, 329, 330, 331, 226, 332, 333, 334, 335, 275, 276, 277, 278, 17, 18, 268, 269, 270, 271, 272, 273, 274, 336, 337, 338, 339, 340, 341, 342, 343, 344, 345, 562, 563, 564, 565, 566, 567, 568, 569, 570, 571, 572, 573, 574, 575, 576, 577] (by decide +kernel) (by decide +kernel)) (goodIn_sub (fun _ h => List.mem_append_right _ h) (by decide +kernel))
set_option maxRecDepth 20000 in
theorem gL_law_L_leastCost : GoodIn wsL_law (va_wsS RL 170 yL_leastCost wsL_leastCost) := goodIn_app (goodIn_r _ [468, 469, 48] (by decide +kernel) (by decide +kernel)) ggL_law_L_leastCost
set_option maxRecDepth 20000 in
theorem ggL_law_X1_leastCost : GoodIn wsL_law wsX1_leastCost := goodIn_r _ [478, 283, 350, 351, 352, 5, 353, 285, 286, 287, 288, 39, 34, 44, 38, 90, 91, 92, 93, 289, 290, 291, 292, 36, 293, 294, 295, 296, 297, 298, 299, 300, 138, 139, 140, 141, 85, 86, 87, 88, 89, 358, 359, 360, 361, 42, 43, 301, 302, 303, 304, 40, 309, 310, 311, 312, 313, 314, 315, 316, 578, 579, 580, 581, 582, 583, 584, 585, 586, 587, 588, 589, 590, 591, 592, 593] (by decide +kernel) (by decide +kernel)
