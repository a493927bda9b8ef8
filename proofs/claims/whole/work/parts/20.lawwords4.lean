set_option maxRecDepth 20000 in
theorem gL_law_X1_leastCost : GoodIn wsL_law (wsV RL 172 RX1 yX1_leastCost wsX1_leastCost) := goodIn_app (goodIn_r _ [475, 476, 477, 5] (by decide +kernel) (by decide +kernel)) ggL_law_X1_leastCost
set_option maxRecDepth 20000 in
theorem ggL_law_X0_roles : GoodIn wsL_law wsX0_roles := goodIn_r _ [482, 23, 562, 563, 564, 565, 566, 567, 568, 569, 570, 571, 572, 573, 574, 575, 576, 577] (by decide +kernel) (by decide +kernel)
set_option maxRecDepth 20000 in
theorem gL_law_X0_roles : GoodIn wsL_law (wsV RL 173 RX0 yX0_roles wsX0_roles) := goodIn_app (goodIn_r _ [479, 480, 481, 2] (by decide +kernel) (by decide +kernel)) ggL_law_X0_roles
set_option maxRecDepth 20000 in
theorem ggL_law_X1_roles : GoodIn wsL_law wsX1_roles := goodIn_r _ [486, 284, 374, 375, 376, 5, 377, 89, 578, 579, 580, 581, 582, 583, 584, 585, 586, 587, 588, 589, 590, 591, 592, 593] (by decide +kernel) (by decide +kernel)
set_option maxRecDepth 20000 in
theorem gL_law_X1_roles : GoodIn wsL_law (wsV RL 176 RX1 yX1_roles wsX1_roles) := goodIn_app (goodIn_r _ [483, 484, 485, 5] (by decide +kernel) (by decide +kernel)) ggL_law_X1_roles
set_option maxRecDepth 20000 in
theorem ggL_law_L_role : GoodIn wsL_law wsL_role := goodIn_ca (goodIn_r _ [489, 50, 490, 491, 492, 2, 493, 55, 56, 23, 22, 562, 563, 564, 565, 566, 567, 568, 569, 570, 571, 572, 573, 574, 575, 576, 577] (by decide +kernel) (by decide +kernel)) (goodIn_sub (fun _ h => List.mem_append_left _ (List.mem_append_left _ (List.mem_append_right _ h))) (by decide +kernel))
set_option maxRecDepth 20000 in
theorem gL_law_L_role : GoodIn wsL_law (va_wsS RL 177 yL_role wsL_role) := goodIn_app (goodIn_r _ [487, 488, 48] (by decide +kernel) (by decide +kernel)) ggL_law_L_role
set_option maxRecDepth 20000 in
theorem ggL_law_X1_role : GoodIn wsL_law wsX1_role := goodIn_r _ [497, 37, 498, 499, 500, 5, 501, 284, 77, 78, 79, 80, 85, 86, 87, 88, 89, 578, 579, 580, 581, 582, 583, 584, 585, 586, 587, 588, 589, 590, 591, 592, 593] (by decide +kernel) (by decide +kernel)
set_option maxRecDepth 20000 in
theorem gL_law_X1_role : GoodIn wsL_law (wsV RL 179 RX1 yX1_role wsX1_role) := goodIn_app (goodIn_r _ [494, 495, 496, 5] (by decide +kernel) (by decide +kernel)) ggL_law_X1_role
set_option maxRecDepth 20000 in
theorem ggL_law_L_rolesOf : GoodIn wsL_law wsL_rolesOf := goodIn_ca (goodIn_r _ [504, 50, 505, 506, 507, 2, 508, 55, 56, 23, 22, 57, 58, 59, 239, 240, 241, 242, 14, 562, 563, 564, 565, 566, 567, 568, 569, 570, 571, 572, 573, 574, 575, 576, 577] (by decide +kernel) (by decide +kernel)) (goodIn_sub (fun _ h => List.mem_append_left _ (List.mem_append_left _ (List.mem_append_right _ h))) (by decide +kernel))
set_option maxRecDepth 20000 in
theorem gL_law_L_rolesOf : GoodIn wsL_law (va_wsS RL 180 yL_rolesOf wsL_rolesOf) := goodIn_app (goodIn_r _ [502, 503, 48] (by decide +kernel) (by decide +kernel)) ggL_law_L_rolesOf
set_option maxRecDepth 20000 in
theorem ggL_law_X1_rolesOf : GoodIn wsL_law wsX1_rolesOf := goodIn_r _ [512, 284, 37, 73, 74, 75, 5, 76, 77, 78, 79, 80, 85, 86, 87, 88, 89, 297, 298, 299, 300, 34, 578, 579, 580, 581, 582, 583, 584, 585, 586, 587, 588, 589, 590, 591, 592, 593] (by decide +kernel) (by decide +kernel)
set_option maxRecDepth 20000 in
theorem gL_law_X1_rolesOf : GoodIn wsL_law (wsV RL 182 RX1 yX1_rolesOf wsX1_rolesOf) := goodIn_app (goodIn_r _ [509, 510, 511, 5] (by decide +kernel) (by decide +kernel)) ggL_law_X1_rolesOf
set_option maxRecDepth 20000 in
theorem ggL_law_L_byRoles : GoodIn wsL_law wsL_byRoles := goodIn_ca (goodIn_r _ [515, 50, 516, 517, 518, 2, 519, 55, 56, 57, 58, 59, 520, 521, 522, 523, 23, 22, 239, 240, 241, 242, 14, 562, 563, 564, 565, 566, 567, 568, 569, 570, 571, 572, 573, 574, 575, 576, 577] (by decide +kernel) (by decide +kernel)) (goodIn_sub (fun _ h => List.mem_append_left _ (List.mem_append_left _ (List.mem_append_right _ h))) (by decide +kernel))
set_option maxRecDepth 20000 in
theorem gL_law_L_byRoles : GoodIn wsL_law (va_wsS RL 183 yL_byRoles wsL_byRoles) := goodIn_app (goodIn_r _ [513, 514, 48] (by decide +kernel) (by decide +kernel)) ggL_law_L_byRoles
set_option maxRecDepth 20000 in
theorem ggL_law_X1_byRoles : GoodIn wsL_law wsX1_byRoles := goodIn_r _ [527, 73, 74, 75, 5, 76, 77, 78, 79, 80, 85, 86, 87, 88, 89, 528, 529, 530, 531, 284, 37, 297, 298, 299, 300, 34, 578, 579, 580, 581, 582, 583, 584, 585, 586, 587, 588, 589, 590, 591, 592, 593] (by decide +kernel) (by decide +kernel)
set_option maxRecDepth 20000 in
theorem gL_law_X1_byRoles : GoodIn wsL_law (wsV RL 185 RX1 yX1_byRoles wsX1_byRoles) := goodIn_app (goodIn_r _ [524, 525, 526, 5] (by decide +kernel) (by decide +kernel)) ggL_law_X1_byRoles
set_option maxRecDepth 20000 in
theorem ggL_law_L_exceptions : GoodIn wsL_law wsL_exceptions := goodIn_ca (goodIn_r _ [534, 50, 535, 536, 537, 2, 538, 55, 56, 14, 57, 58, 59, 520, 521, 522, 523, 23, 22, 239, 240, 241, 242, 562, 563, 564, 565, 566, 567, 568, 569, 570, 571, 572, 573, 574, 575, 576, 577] (by decide +kernel) (by decide +kernel)) (goodIn_sub (fun _ h => List.mem_append_left _ (List.mem_append_left _ (List.mem_append_right _ h))) (by decide +kernel))
set_option maxRecDepth 20000 in
theorem gL_law_L_exceptions : GoodIn wsL_law (va_wsS RL 186 yL_exceptions wsL_exceptions) := goodIn_app (goodIn_r _ [532, 533, 48] (by decide +kernel) (by decide +kernel)) ggL_law_L_exceptions
set_option maxRecDepth 20000 in
theorem ggL_law_X1_exceptions : GoodIn wsL_law wsX1_exceptions := goodIn_r _ [542, 34, 73, 74, 75, 5, 76, 77, 78, 79, 80, 85, 86, 87, 88, 89, 528, 529, 530, 531, 284, 37, 297, 298, 299, 300, 578, 579, 580, 581, 582, 583, 584, 585, 586, 587, 588, 589, 590, 591, 592, 593] (by decide +kernel) (by decide +kernel)
set_option maxRecDepth 20000 in
theorem gL_law_X1_exceptions : GoodIn wsL_law (wsV RL 188 RX1 yX1_exceptions wsX1_exceptions) := goodIn_app (goodIn_r _ [539, 540, 541, 5] (by decide +kernel) (by decide +kernel)) ggL_law_X1_exceptions
set_option maxRecDepth 20000 in
theorem ggL_law_X0_cost : GoodIn wsL_law wsX0_cost := goodIn_r _ [546, 14, 17, 23, 18, 520, 521, 522, 2, 523, 22, 239, 240, 241, 242, 127, 128, 129, 130, 131, 132, 133, 562, 563, 564, 565, 566, 567, 568, 569, 570, 571, 572, 573, 574, 575, 576, 577] (by decide +kernel) (by decide +kernel)
set_option maxRecDepth 20000 in
theorem gL_law_X0_cost : GoodIn wsL_law (wsV RL 189 RX0 yX0_cost wsX0_cost) := goodIn_app (goodIn_r _ [543, 544, 545, 2] (by decide +kernel) (by decide +kernel)) ggL_law_X0_cost
set_option maxRecDepth 20000 in
theorem ggL_law_X1_cost : GoodIn wsL_law wsX1_cost := goodIn_r _ [550, 89, 42, 284, 43, 34, 528, 529, 530, 5, 531, 37, 297, 298, 299, 300, 138, 139, 140, 141, 578, 579, 580, 581, 582, 583, 584, 585, 586, 587, 588, 589, 590, 591, 592, 593] (by decide +kernel) (by decide +kernel)
set_option maxRecDepth 20000 in
theorem gL_law_X1_cost : GoodIn wsL_law (wsV RL 192 RX1 yX1_cost wsX1_cost) := goodIn_app (goodIn_r _ [547, 548, 549, 5] (by decide +kernel) (by decide +kernel)) ggL_law_X1_cost
set_option maxRecDepth 20000 in
theorem ggL_law_L_isRisky : GoodIn wsL_law wsL_isRisky := goodIn_ca (goodIn_r _ [553, 50, 554, 555, 556, 2, 557, 55, 56, 23, 22, 243, 244, 245, 246, 16, 63, 64, 65, 235, 236, 237, 238, 239, 240, 241, 242, 14, 562, 563, 564, 565, 566, 567, 568, 569, 570, 571, 572, 573, 574, 575, 576, 577] (by decide +kernel) (by decide +kernel)) (goodIn_sub (fun _ h => List.mem_append_left _ (List.mem_append_left _ (List.mem_append_right _ h))) (by decide +kernel))
set_option maxRecDepth 20000 in
theorem gL_law_L_isRisky : GoodIn wsL_law (va_wsS RL 193 yL_isRisky wsL_isRisky) := goodIn_app (goodIn_r _ [551, 552, 48] (by decide +kernel) (by decide +kernel)) ggL_law_L_isRisky
set_option maxRecDepth 20000 in
theorem ggL_law_X1_isRisky : GoodIn wsL_law wsX1_isRisky := goodIn_r _ [561, 284, 37, 498, 499, 500, 5, 501, 77, 78, 79, 80, 85, 86, 87, 88, 89, 297, 298, 299, 300, 34, 289, 290, 291, 292, 36, 90, 91, 92, 93, 578, 579, 580, 581, 582, 583, 584, 585, 586, 587, 588, 589, 590, 591, 592, 593] (by decide +kernel) (by decide +kernel)
set_option maxRecDepth 20000 in
theorem gL_law_X1_isRisky : GoodIn wsL_law (wsV RL 195 RX1 yX1_isRisky wsX1_isRisky) := goodIn_app (goodIn_r _ [558, 559, 560, 5] (by decide +kernel) (by decide +kernel)) ggL_law_X1_isRisky
