set_option maxRecDepth 20000 in
theorem gL_law_L_setPeriod : GoodIn wsL_law (va_wsS RL 119 yL_setPeriod wsL_setPeriod) := goodIn_app (goodIn_r _ [178, 179, 48] (by decide +kernel) (by decide +kernel)) ggL_law_L_setPeriod
set_option maxRecDepth 20000 in
theorem ggL_law_X1_setPeriod : GoodIn wsL_law wsX1_setPeriod := goodIn_r _ [188, 45, 77, 78, 79, 5, 80, 85, 86, 87, 88, 89, 578, 579, 580, 581, 582, 583, 584, 585, 586, 587, 588, 589, 590, 591, 592, 593] (by decide +kernel) (by decide +kernel)
set_option maxRecDepth 20000 in
theorem gL_law_X1_setPeriod : GoodIn wsL_law (wsV RL 121 RX1 yX1_setPeriod wsX1_setPeriod) := goodIn_app (goodIn_r _ [185, 186, 187, 5] (by decide +kernel) (by decide +kernel)) ggL_law_X1_setPeriod
set_option maxRecDepth 20000 in
theorem ggL_law_L_review : GoodIn wsL_law wsL_review := goodIn_ca (goodIn_ca (goodIn_r _ [191, 50, 192, 193, 194, 195, 2, 196, 55, 56, 197, 198, 14, 21, 15, 57, 58, 59, 60, 61, 62, 63, 64, 65, 66, 67, 68, 562, 563, 564, 565, 566, 567, 568, 569, 570, 571, 572, 573, 574, 575, 576, 577] (by decide +kernel) (by decide +kernel)) (goodIn_sub (fun _ h => List.mem_append_left _ (List.mem_append_left _ (List.mem_append_right _ h))) (by decide +kernel))) (goodIn_sub (fun _ h => List.mem_append_right _ h) (by decide +kernel))
set_option maxRecDepth 20000 in
theorem gL_law_L_review : GoodIn wsL_law (va_wsS RL 122 yL_review wsL_review) := goodIn_app (goodIn_r _ [189, 190, 48] (by decide +kernel) (by decide +kernel)) ggL_law_L_review
set_option maxRecDepth 20000 in
theorem ggL_law_X1_review : GoodIn wsL_law wsX1_review := goodIn_r _ [202, 34, 98, 35, 73, 74, 75, 5, 76, 77, 78, 79, 80, 81, 82, 83, 84, 90, 91, 92, 93, 85, 86, 87, 88, 89, 578, 579, 580, 581, 582, 583, 584, 585, 586, 587, 588, 589, 590, 591, 592, 593] (by decide +kernel) (by decide +kernel)
set_option maxRecDepth 20000 in
theorem gL_law_X1_review : GoodIn wsL_law (wsV RL 124 RX1 yX1_review wsX1_review) := goodIn_app (goodIn_r _ [199, 200, 201, 5] (by decide +kernel) (by decide +kernel)) ggL_law_X1_review
set_option maxRecDepth 20000 in
theorem ggL_law_L_nextQuarter : GoodIn wsL_law wsL_nextQuarter := goodIn_ca (goodIn_r _ [205, 192, 206, 207, 208, 2, 209, 197, 198, 21, 14, 210, 211, 212, 213, 15, 20, 66, 67, 68, 63, 64, 65, 127, 128, 129, 130, 131, 132, 133, 562, 563, 564, 565, 566, 567, 568, 569, 570, 571, 572, 573, 574, 575, 576, 577] (by decide +kernel) (by decide +kernel)) (goodIn_sub (fun _ h => List.mem_append_right _ h) (by decide +kernel))
set_option maxRecDepth 20000 in
theorem gL_law_L_nextQuarter : GoodIn wsL_law (va_wsS RL 125 yL_nextQuarter wsL_nextQuarter) := goodIn_app (goodIn_r _ [203, 204, 48] (by decide +kernel) (by decide +kernel)) ggL_law_L_nextQuarter
set_option maxRecDepth 20000 in
theorem ggL_law_X1_nextQuarter : GoodIn wsL_law wsX1_nextQuarter := goodIn_r _ [217, 98, 34, 85, 86, 87, 5, 88, 89, 218, 219, 220, 221, 35, 45, 90, 91, 92, 93, 138, 139, 140, 141, 578, 579, 580, 581, 582, 583, 584, 585, 586, 587, 588, 589, 590, 591, 592, 593] (by decide +kernel) (by decide +kernel)
set_option maxRecDepth 20000 in
theorem gL_law_X1_nextQuarter : GoodIn wsL_law (wsV RL 128 RX1 yX1_nextQuarter wsX1_nextQuarter) := goodIn_app (goodIn_r _ [214, 215, 216, 5] (by decide +kernel) (by decide +kernel)) ggL_law_X1_nextQuarter
set_option maxRecDepth 20000 in
theorem ggL_law_X0_mineGreedily : GoodIn wsL_law wsX0_mineGreedily := goodIn_r _ [225, 23, 28, 29, 25, 22, 24, 26, 226, 27, 227, 228, 229, 2, 230, 19, 231, 232, 233, 234, 14, 63, 64, 65, 235, 236, 237, 238, 239, 240, 241, 242, 127, 128, 129, 130, 131, 132, 133, 243, 244, 245, 246, 16, 247, 248, 249, 250, 251, 252, 253, 254, 255, 256, 257, 258, 259, 260, 261, 262, 263, 264, 265, 266, 267, 18, 17, 268, 269, 270, 271, 272, 273, 274, 275, 276, 277, 278, 562, 563, 564, 565, 566, 567, 568, 569, 570, 571, 572, 573, 574, 575, 576, 577] (by decide +kernel) (by decide +kernel)
set_option maxRecDepth 20000 in
theorem gL_law_X0_mineGreedily : GoodIn wsL_law (wsV RL 129 RX0 yX0_mineGreedily wsX0_mineGreedily) := goodIn_app (goodIn_r _ [222, 223, 224, 2] (by decide +kernel) (by decide +kernel)) ggL_law_X0_mineGreedily
set_option maxRecDepth 20000 in
theorem ggL_law_X1_mineGreedily : GoodIn wsL_law wsX1_mineGreedily := goodIn_r _ [282, 89, 283, 41, 43, 38, 42, 284, 37, 285, 286, 287, 5, 288, 39, 34, 44, 90, 91, 92, 93, 289, 290, 291, 292, 36, 293, 294, 295, 296, 297, 298, 299, 300, 138, 139, 140, 141, 301, 302, 303, 304, 40, 305, 306, 307, 308, 309, 310, 311, 312, 313, 314, 315, 316, 578, 579, 580, 581, 582, 583, 584, 585, 586, 587, 588, 589, 590, 591, 592, 593] (by decide +kernel) (by decide +kernel)
set_option maxRecDepth 20000 in
theorem gL_law_X1_mineGreedily : GoodIn wsL_law (wsV RL 132 RX1 yX1_mineGreedily wsX1_mineGreedily) := goodIn_app (goodIn_r _ [279, 280, 281, 5] (by decide +kernel) (by decide +kernel)) ggL_law_X1_mineGreedily
set_option maxRecDepth 20000 in
theorem ggL_law_L_mineBest : GoodIn wsL_law wsL_mineBest := goodIn_ca (goodIn_r _ [319, 192, 320, 321, 322, 2, 323, 197, 198, 25, 23, 22, 24, 227, 228, 229, 230, 19, 231, 232, 233, 234, 14, 63, 64, 65, 235, 236, 237, 238, 239, 240, 241, 242, 127, 128, 129, 130, 131, 132, 133, 243, 244, 245, 246, 16, 247, 248, 249, 250, 251, 252, 253, 26, 27, 254, 255, 256, 257, 258, 259, 260, 261, 262, 263, 28, 29, 324, 325, 326, 327, 328, 329, 330, 331, 226, 332, 333, 334, 335, 275, 276, 277, 278, 17, 18, 268, 269, 270, 271, 272, 273, 274, 336, 337, 338, 339, 340, 341, 342, 343, 344, 345, 562, 563, 564, 565, 566, 567, 568, 569, 570, 571, 572, 573, 574, 575, 576, 577] (by decide +kernel) (by decide +kernel)) (goodIn_sub (fun _ h => List.mem_append_right _ h) (by decide +kernel))
set_option maxRecDepth 20000 in
theorem gL_law_L_mineBest : GoodIn wsL_law (va_wsS RL 133 yL_mineBest wsL_mineBest) := goodIn_app (goodIn_r _ [317, 318, 48] (by decide +kernel) (by decide +kernel)) ggL_law_L_mineBest
set_option maxRecDepth 20000 in
theorem ggL_law_X1_mineBest : GoodIn wsL_law wsX1_mineBest := goodIn_r _ [349, 284, 283, 37, 38, 350, 351, 352, 5, 353, 285, 286, 287, 288, 39, 34, 44, 90, 91, 92, 93, 289, 290, 291, 292, 36, 293, 294, 295, 296, 297, 298, 299, 300, 138, 139, 140, 141, 85, 86, 87, 88, 89, 354, 355, 356, 357, 358, 359, 360, 361, 42, 43, 301, 302, 303, 304, 40, 309, 310, 311, 312, 313, 314, 315, 316, 362, 363, 364, 365, 578, 579, 580, 581, 582, 583, 584, 585, 586, 587, 588, 589, 590, 591, 592, 593] (by decide +kernel) (by decide +kernel)
set_option maxRecDepth 20000 in
theorem gL_law_X1_mineBest : GoodIn wsL_law (wsV RL 135 RX1 yX1_mineBest wsX1_mineBest) := goodIn_app (goodIn_r _ [346, 347, 348, 5] (by decide +kernel) (by decide +kernel)) ggL_law_X1_mineBest
set_option maxRecDepth 20000 in
theorem ggL_law_X0_dropRoles : GoodIn wsL_law wsX0_dropRoles := goodIn_r _ [369, 23, 562, 563, 564, 565, 566, 567, 568, 569, 570, 571, 572, 573, 574, 575, 576, 577] (by decide +kernel) (by decide +kernel)
set_option maxRecDepth 20000 in
theorem gL_law_X0_dropRoles : GoodIn wsL_law (wsV RL 136 RX0 yX0_dropRoles wsX0_dropRoles) := goodIn_app (goodIn_r _ [366, 367, 368, 2] (by decide +kernel) (by decide +kernel)) ggL_law_X0_dropRoles
set_option maxRecDepth 20000 in
theorem ggL_law_X1_dropRoles : GoodIn wsL_law wsX1_dropRoles := goodIn_r _ [373, 284, 374, 375, 376, 5, 377, 89, 578, 579, 580, 581, 582, 583, 584, 585, 586, 587, 588, 589, 590, 591, 592, 593] (by decide +kernel) (by decide +kernel)
set_option maxRecDepth 20000 in
theorem gL_law_X1_dropRoles : GoodIn wsL_law (wsV RL 139 RX1 yX1_dropRoles wsX1_dropRoles) := goodIn_app (goodIn_r _ [370, 371, 372, 5] (by decide +kernel) (by decide +kernel)) ggL_law_X1_dropRoles
set_option maxRecDepth 20000 in
theorem ggL_law_L_permissions : GoodIn wsL_law wsL_permissions := goodIn_ca (goodIn_r _ [380, 50, 381, 382, 383, 2, 384, 55, 56, 14, 57, 58, 59, 562, 563, 564, 565, 566, 567, 568, 569, 570, 571, 572, 573, 574, 575, 576, 577] (by decide +kernel) (by decide +kernel)) (goodIn_sub (fun _ h => List.mem_append_left _ (List.mem_append_left _ (List.mem_append_right _ h))) (by decide +kernel))
set_option maxRecDepth 20000 in
theorem gL_law_L_permissions : GoodIn wsL_law (va_wsS RL 140 yL_permissions wsL_permissions) := goodIn_app (goodIn_r _ [378, 379, 48] (by decide +kernel) (by decide +kernel)) ggL_law_L_permissions
set_option maxRecDepth 20000 in
theorem ggL_law_X1_permissions : GoodIn wsL_law wsX1_permissions := goodIn_r _ [388, 34, 73, 74, 75, 5, 76, 77, 78, 79, 80, 85, 86, 87, 88, 89, 578, 579, 580, 581, 582, 583, 584, 585, 586, 587, 588, 589, 590, 591, 592, 593] (by decide +kernel) (by decide +kernel)
set_option maxRecDepth 20000 in
theorem gL_law_X1_permissions : GoodIn wsL_law (wsV RL 142 RX1 yX1_permissions wsX1_permissions) := goodIn_app (goodIn_r _ [385, 386, 387, 5] (by decide +kernel) (by decide +kernel)) ggL_law_X1_permissions
set_option maxRecDepth 20000 in
theorem ggL_law_X0_grants : GoodIn wsL_law wsX0_grants := goodIn_r _ [392, 14, 127, 128, 129, 130, 131, 132, 133, 562, 563, 564, 565, 566, 567, 568, 569, 570, 571, 572, 573, 574, 575, 576, 577] (by decide +kernel) (by decide +kernel)
set_option maxRecDepth 20000 in
theorem gL_law_X0_grants : GoodIn wsL_law (wsV RL 143 RX0 yX0_grants wsX0_grants) := goodIn_app (goodIn_r _ [389, 390, 391, 2] (by decide +kernel) (by decide +kernel)) ggL_law_X0_grants
set_option maxRecDepth 20000 in
theorem ggL_law_X1_grants : GoodIn wsL_law wsX1_grants := goodIn_r _ [396, 89, 301, 302, 303, 5, 304, 40, 313, 314, 315, 316, 34, 138, 139, 140, 141, 578, 579, 580, 581, 582, 583, 584, 585, 586, 587, 588, 589, 590, 591, 592, 593] (by decide +kernel) (by decide +kernel)
set_option maxRecDepth 20000 in
theorem gL_law_X1_grants : GoodIn wsL_law (wsV RL 146 RX1 yX1_grants wsX1_grants) := goodIn_app (goodIn_r _ [393, 394, 395, 5] (by decide +kernel) (by decide +kernel)) ggL_law_X1_grants
