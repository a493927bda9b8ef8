set_option maxRecDepth 20000 in
theorem gL_law_X1_mineBest : GoodIn wsL_law (wsV RL 135 RX1 yX1_mineBest wsX1_mineBest) := goodIn_app (goodIn_of _ (by decide +kernel)) ggL_law_X1_mineBest
set_option maxRecDepth 20000 in
theorem ggL_law_X0_dropRoles : GoodIn wsL_law wsX0_dropRoles := goodIn_r _ [369, 23, 562, 563, 564, 565, 566, 567, 568, 569, 570, 571, 572, 573, 574, 575, 576, 577] (by decide +kernel) (by decide +kernel)
set_option maxRecDepth 20000 in
theorem gL_law_X0_dropRoles : GoodIn wsL_law (wsV RL 136 RX0 yX0_dropRoles wsX0_dropRoles) := goodIn_app (goodIn_of _ (by decide +kernel)) ggL_law_X0_dropRoles
set_option maxRecDepth 20000 in
theorem ggL_law_X1_dropRoles : GoodIn wsL_law wsX1_dropRoles := goodIn_r _ [373, 284, 374, 375, 376, 5, 377, 89, 578, 579, 580, 581, 582, 583, 584, 585, 586, 587, 588, 589, 590, 591, 592, 593] (by decide +kernel) (by decide +kernel)
set_option maxRecDepth 20000 in
theorem gL_law_X1_dropRoles : GoodIn wsL_law (wsV RL 139 RX1 yX1_dropRoles wsX1_dropRoles) := goodIn_app (goodIn_of _ (by decide +kernel)) ggL_law_X1_dropRoles
set_option maxRecDepth 20000 in
theorem ggL_law_L_permissions : GoodIn wsL_law wsL_permissions := goodIn_ca (goodIn_r _ [380, 50, 381, 382, 383, 2, 384, 55, 56, 14, 57, 58, 59, 562, 563, 564, 565, 566, 567, 568, 569, 570, 571, 572, 573, 574, 575, 576, 577] (by decide +kernel) (by decide +kernel)) (goodIn_sub (fun _ h => List.mem_append_left _ (List.mem_append_left _ (List.mem_append_right _ h))) (by decide +kernel))
set_option maxRecDepth 20000 in
theorem gL_law_L_permissions : GoodIn wsL_law (va_wsS RL 140 yL_permissions wsL_permissions) := goodIn_app (goodIn_of _ (by decide +kernel)) ggL_law_L_permissions
set_option maxRecDepth 20000 in
theorem ggL_law_X1_permissions : GoodIn wsL_law wsX1_permissions := goodIn_r _ [388, 34, 73, 74, 75, 5, 76, 77, 78, 79, 80, 85, 86, 87, 88, 89, 578, 579, 580, 581, 582, 583, 584, 585, 586, 587, 588, 589, 590, 591, 592, 593] (by decide +kernel) (by decide +kernel)
set_option maxRecDepth 20000 in
theorem gL_law_X1_permissions : GoodIn wsL_law (wsV RL 142 RX1 yX1_permissions wsX1_permissions) := goodIn_app (goodIn_of _ (by decide +kernel)) ggL_law_X1_permissions
set_option maxRecDepth 20000 in
theorem ggL_law_X0_grants : GoodIn wsL_law wsX0_grants := goodIn_r _ [392, 14, 127, 128, 129, 130, 131, 132, 133, 562, 563, 564, 565, 566, 567, 568, 569, 570, 571, 572, 573, 574, 575, 576, 577] (by decide +kernel) (by decide +kernel)
set_option maxRecDepth 20000 in
theorem gL_law_X0_grants : GoodIn wsL_law (wsV RL 143 RX0 yX0_grants wsX0_grants) := goodIn_app (goodIn_of _ (by decide +kernel)) ggL_law_X0_grants
set_option maxRecDepth 20000 in
theorem ggL_law_X1_grants : GoodIn wsL_law wsX1_grants := goodIn_r _ [396, 89, 301, 302, 303, 5, 304, 40, 313, 314, 315, 316, 34, 138, 139, 140, 141, 578, 579, 580, 581, 582, 583, 584, 585, 586, 587, 588, 589, 590, 591, 592, 593] (by decide +kernel) (by decide +kernel)
set_option maxRecDepth 20000 in
theorem gL_law_X1_grants : GoodIn wsL_law (wsV RL 146 RX1 yX1_grants wsX1_grants) := goodIn_app (goodIn_of _ (by decide +kernel)) ggL_law_X1_grants
set_option maxRecDepth 20000 in
theorem ggL_law_L_violations : GoodIn wsL_law wsL_violations := goodIn_ca (goodIn_r _ [399, 50, 400, 401, 402, 2, 403, 55, 56, 14, 16, 57, 58, 59, 63, 64, 65, 127, 128, 129, 130, 131, 132, 133, 562, 563, 564, 565, 566, 567, 568, 569, 570, 571, 572, 573, 574, 575, 576, 577] (by decide +kernel) (by decide +kernel)) (goodIn_sub (fun _ h => List.mem_append_left _ (List.mem_append_left _ (List.mem_append_right _ h))) (by decide +kernel))
set_option maxRecDepth 20000 in
theorem gL_law_L_violations : GoodIn wsL_law (va_wsS RL 147 yL_violations wsL_violations) := goodIn_app (goodIn_of _ (by decide +kernel)) ggL_law_L_violations
set_option maxRecDepth 20000 in
theorem ggL_law_X1_violations : GoodIn wsL_law wsX1_violations := goodIn_r _ [407, 34, 36, 73, 74, 75, 5, 76, 77, 78, 79, 80, 85, 86, 87, 88, 89, 90, 91, 92, 93, 138, 139, 140, 141, 578, 579, 580, 581, 582, 583, 584, 585, 586, 587, 588, 589, 590, 591, 592, 593] (by decide +kernel) (by decide +kernel)
set_option maxRecDepth 20000 in
theorem gL_law_X1_violations : GoodIn wsL_law (wsV RL 149 RX1 yX1_violations wsX1_violations) := goodIn_app (goodIn_of _ (by decide +kernel)) ggL_law_X1_violations
set_option maxRecDepth 20000 in
theorem ggL_law_X0_quarter : GoodIn wsL_law wsX0_quarter := goodIn_r _ [411, 21, 562, 563, 564, 565, 566, 567, 568, 569, 570, 571, 572, 573, 574, 575, 576, 577] (by decide +kernel) (by decide +kernel)
set_option maxRecDepth 20000 in
theorem gL_law_X0_quarter : GoodIn wsL_law (wsV RL 150 RX0 yX0_quarter wsX0_quarter) := goodIn_app (goodIn_of _ (by decide +kernel)) ggL_law_X0_quarter
set_option maxRecDepth 20000 in
theorem ggL_law_X1_quarter : GoodIn wsL_law wsX1_quarter := goodIn_r _ [415, 98, 374, 375, 376, 5, 377, 89, 578, 579, 580, 581, 582, 583, 584, 585, 586, 587, 588, 589, 590, 591, 592, 593] (by decide +kernel) (by decide +kernel)
set_option maxRecDepth 20000 in
theorem gL_law_X1_quarter : GoodIn wsL_law (wsV RL 153 RX1 yX1_quarter wsX1_quarter) := goodIn_app (goodIn_of _ (by decide +kernel)) ggL_law_X1_quarter
set_option maxRecDepth 20000 in
theorem ggL_law_L_due : GoodIn wsL_law wsL_due := goodIn_ca (goodIn_r _ [418, 50, 419, 420, 421, 2, 422, 55, 56, 21, 57, 58, 59, 210, 211, 212, 213, 15, 14, 20, 66, 67, 68, 63, 64, 65, 562, 563, 564, 565, 566, 567, 568, 569, 570, 571, 572, 573, 574, 575, 576, 577] (by decide +kernel) (by decide +kernel)) (goodIn_sub (fun _ h => List.mem_append_left _ (List.mem_append_left _ (List.mem_append_right _ h))) (by decide +kernel))
set_option maxRecDepth 20000 in
theorem gL_law_L_due : GoodIn wsL_law (va_wsS RL 154 yL_due wsL_due) := goodIn_app (goodIn_of _ (by decide +kernel)) ggL_law_L_due
set_option maxRecDepth 20000 in
theorem ggL_law_X1_due : GoodIn wsL_law wsX1_due := goodIn_r _ [426, 98, 73, 74, 75, 5, 76, 77, 78, 79, 80, 85, 86, 87, 88, 89, 218, 219, 220, 221, 34, 35, 45, 90, 91, 92, 93, 578, 579, 580, 581, 582, 583, 584, 585, 586, 587, 588, 589, 590, 591, 592, 593] (by decide +kernel) (by decide +kernel)
set_option maxRecDepth 20000 in
theorem gL_law_X1_due : GoodIn wsL_law (wsV RL 156 RX1 yX1_due wsX1_due) := goodIn_app (goodIn_of _ (by decide +kernel)) ggL_law_X1_due
set_option maxRecDepth 20000 in
theorem ggL_law_X0_candidates : GoodIn wsL_law wsX0_candidates := goodIn_r _ [430, 25, 227, 228, 229, 2, 230, 19, 24, 231, 232, 233, 234, 14, 63, 64, 65, 235, 236, 237, 238, 239, 240, 241, 242, 127, 128, 129, 130, 131, 132, 133, 243, 244, 245, 246, 16, 247, 248, 249, 250, 251, 252, 253, 26, 27, 254, 255, 256, 257, 258, 259, 260, 261, 262, 263, 28, 29, 562, 563, 564, 565, 566, 567, 568, 569, 570, 571, 572, 573, 574, 575, 576, 577] (by decide +kernel) (by decide +kernel)
