set_option maxRecDepth 20000 in
theorem ggL_law_X0_init : GoodIn wsL_law wsX0_init := goodIn_r _ [9, 10, 11, 12, 13, 14, 15, 16, 17, 18, 19, 20, 21, 22, 23, 24, 25, 6, 26, 27, 28, 29, 562, 563, 564, 565, 566, 567, 568, 569, 570, 571, 572, 573, 574, 575, 576, 577] (by decide +kernel) (by decide +kernel)
set_option maxRecDepth 20000 in
theorem gL_law_X0_init : GoodIn wsL_law (wsX0_init) := ggL_law_X0_init
set_option maxRecDepth 20000 in
theorem ggL_law_X1_init : GoodIn wsL_law wsX1_init := goodIn_r _ [32, 33, 11, 12, 13, 34, 35, 36, 37, 38, 39, 40, 41, 42, 43, 44, 45, 578, 579, 580, 581, 582, 583, 584, 585, 586, 587, 588, 589, 590, 591, 592, 593] (by decide +kernel) (by decide +kernel)
set_option maxRecDepth 20000 in
theorem gL_law_X1_init : GoodIn wsL_law (wsX1_init) := ggL_law_X1_init
set_option maxRecDepth 20000 in
theorem ggL_law_L_grant : GoodIn wsL_law wsL_grant := goodIn_ca (goodIn_r _ [49, 50, 51, 52, 53, 2, 54, 55, 56, 14, 15, 21, 57, 58, 59, 60, 61, 62, 63, 64, 65, 66, 67, 68, 562, 563, 564, 565, 566, 567, 568, 569, 570, 571, 572, 573, 574, 575, 576, 577] (by decide +kernel) (by decide +kernel)) (goodIn_sub (fun _ h => List.mem_append_left _ (List.mem_append_left _ (List.mem_append_right _ h))) (by decide +kernel))
set_option maxRecDepth 20000 in
theorem gL_law_L_grant : GoodIn wsL_law (va_wsS RL 92 yL_grant wsL_grant) := goodIn_app (goodIn_r _ [46, 47, 48] (by decide +kernel) (by decide +kernel)) ggL_law_L_grant
set_option maxRecDepth 20000 in
theorem ggL_law_X1_grant : GoodIn wsL_law wsX1_grant := goodIn_r _ [72, 34, 73, 74, 75, 5, 76, 77, 78, 79, 80, 81, 82, 83, 84, 85, 86, 87, 88, 89, 90, 91, 92, 93, 94, 95, 96, 97, 35, 98, 578, 579, 580, 581, 582, 583, 584, 585, 586, 587, 588, 589, 590, 591, 592, 593] (by decide +kernel) (by decide +kernel)
set_option maxRecDepth 20000 in
theorem gL_law_X1_grant : GoodIn wsL_law (wsV RL 97 RX1 yX1_grant wsX1_grant) := goodIn_app (goodIn_r _ [69, 70, 71, 5] (by decide +kernel) (by decide +kernel)) ggL_law_X1_grant
set_option maxRecDepth 20000 in
theorem ggL_law_X1_thrown : GoodIn wsL_law wsX1_thrown := goodIn_r _ [102, 89, 578, 579, 580, 581, 582, 583, 584, 585, 586, 587, 588, 589, 590, 591, 592, 593] (by decide +kernel) (by decide +kernel)
set_option maxRecDepth 20000 in
theorem gL_law_X1_thrown : GoodIn wsL_law (wsV RL 98 RX1 yX1_thrown wsX1_thrown) := goodIn_app (goodIn_r _ [99, 100, 101, 5] (by decide +kernel) (by decide +kernel)) ggL_law_X1_thrown
set_option maxRecDepth 20000 in
theorem ggL_law_L_revoke : GoodIn wsL_law wsL_revoke := goodIn_ca (goodIn_r _ [105, 50, 106, 107, 108, 2, 109, 55, 56, 14, 57, 58, 59, 60, 61, 62, 63, 64, 65, 562, 563, 564, 565, 566, 567, 568, 569, 570, 571, 572, 573, 574, 575, 576, 577] (by decide +kernel) (by decide +kernel)) (goodIn_sub (fun _ h => List.mem_append_left _ (List.mem_append_left _ (List.mem_append_right _ h))) (by decide +kernel))
set_option maxRecDepth 20000 in
theorem gL_law_L_revoke : GoodIn wsL_law (va_wsS RL 101 yL_revoke wsL_revoke) := goodIn_app (goodIn_r _ [103, 104, 48] (by decide +kernel) (by decide +kernel)) ggL_law_L_revoke
set_option maxRecDepth 20000 in
theorem ggL_law_X1_revoke : GoodIn wsL_law wsX1_revoke := goodIn_r _ [113, 34, 73, 74, 75, 5, 76, 77, 78, 79, 80, 81, 82, 83, 84, 85, 86, 87, 88, 89, 90, 91, 92, 93, 578, 579, 580, 581, 582, 583, 584, 585, 586, 587, 588, 589, 590, 591, 592, 593] (by decide +kernel) (by decide +kernel)
set_option maxRecDepth 20000 in
theorem gL_law_X1_revoke : GoodIn wsL_law (wsV RL 103 RX1 yX1_revoke wsX1_revoke) := goodIn_app (goodIn_r _ [110, 111, 112, 5] (by decide +kernel) (by decide +kernel)) ggL_law_X1_revoke
set_option maxRecDepth 20000 in
theorem ggL_law_L_setGrants : GoodIn wsL_law wsL_setGrants := goodIn_ca (goodIn_ca (goodIn_r _ [116, 50, 117, 118, 119, 120, 2, 121, 55, 56, 122, 123, 14, 15, 21, 57, 58, 59, 124, 125, 126, 63, 64, 65, 66, 67, 68, 127, 128, 129, 130, 131, 132, 133, 562, 563, 564, 565, 566, 567, 568, 569, 570, 571, 572, 573, 574, 575, 576, 577] (by decide +kernel) (by decide +kernel)) (goodIn_sub (fun _ h => List.mem_append_left _ (List.mem_append_left _ (List.mem_append_right _ h))) (by decide +kernel))) (goodIn_sub (fun _ h => List.mem_append_left _ (List.mem_append_right _ h)) (by decide +kernel))
set_option maxRecDepth 20000 in
theorem gL_law_L_setGrants : GoodIn wsL_law (va_wsS RL 104 yL_setGrants wsL_setGrants) := goodIn_app (goodIn_r _ [114, 115, 48] (by decide +kernel) (by decide +kernel)) ggL_law_L_setGrants
set_option maxRecDepth 20000 in
theorem ggL_law_X1_setGrants : GoodIn wsL_law wsX1_setGrants := goodIn_r _ [137, 34, 73, 74, 75, 5, 76, 77, 78, 79, 80, 85, 86, 87, 88, 89, 138, 139, 140, 141, 90, 91, 92, 93, 94, 95, 96, 97, 35, 98, 578, 579, 580, 581, 582, 583, 584, 585, 586, 587, 588, 589, 590, 591, 592, 593] (by decide +kernel) (by decide +kernel)
set_option maxRecDepth 20000 in
theorem gL_law_X1_setGrants : GoodIn wsL_law (wsV RL 106 RX1 yX1_setGrants wsX1_setGrants) := goodIn_app (goodIn_r _ [134, 135, 136, 5] (by decide +kernel) (by decide +kernel)) ggL_law_X1_setGrants
set_option maxRecDepth 20000 in
theorem ggL_law_L_setConflict : GoodIn wsL_law wsL_setConflict := goodIn_ca (goodIn_ca (goodIn_r _ [144, 50, 117, 145, 146, 147, 2, 148, 55, 56, 122, 123, 16, 60, 61, 62, 63, 64, 65, 562, 563, 564, 565, 566, 567, 568, 569, 570, 571, 572, 573, 574, 575, 576, 577] (by decide +kernel) (by decide +kernel)) (goodIn_sub (fun _ h => List.mem_append_left _ (List.mem_append_left _ (List.mem_append_right _ h))) (by decide +kernel))) (goodIn_sub (fun _ h => List.mem_append_left _ (List.mem_append_right _ h)) (by decide +kernel))
set_option maxRecDepth 20000 in
theorem gL_law_L_setConflict : GoodIn wsL_law (va_wsS RL 107 yL_setConflict wsL_setConflict) := goodIn_app (goodIn_r _ [142, 143, 48] (by decide +kernel) (by decide +kernel)) ggL_law_L_setConflict
set_option maxRecDepth 20000 in
theorem ggL_law_X1_setConflict : GoodIn wsL_law wsX1_setConflict := goodIn_r _ [152, 36, 81, 82, 83, 5, 84, 77, 78, 79, 80, 85, 86, 87, 88, 89, 90, 91, 92, 93, 578, 579, 580, 581, 582, 583, 584, 585, 586, 587, 588, 589, 590, 591, 592, 593] (by decide +kernel) (by decide +kernel)
set_option maxRecDepth 20000 in
theorem gL_law_X1_setConflict : GoodIn wsL_law (wsV RL 110 RX1 yX1_setConflict wsX1_setConflict) := goodIn_app (goodIn_r _ [149, 150, 151, 5] (by decide +kernel) (by decide +kernel)) ggL_law_X1_setConflict
set_option maxRecDepth 20000 in
theorem ggL_law_L_setCosts : GoodIn wsL_law wsL_setCosts := goodIn_ca (goodIn_r _ [155, 117, 156, 157, 158, 2, 159, 122, 123, 17, 18, 160, 161, 162, 562, 563, 564, 565, 566, 567, 568, 569, 570, 571, 572, 573, 574, 575, 576, 577] (by decide +kernel) (by decide +kernel)) (goodIn_sub (fun _ h => List.mem_append_left _ (List.mem_append_right _ h)) (by decide +kernel))
set_option maxRecDepth 20000 in
theorem gL_law_L_setCosts : GoodIn wsL_law (va_wsS RL 111 yL_setCosts wsL_setCosts) := goodIn_app (goodIn_r _ [153, 154, 48] (by decide +kernel) (by decide +kernel)) ggL_law_L_setCosts
set_option maxRecDepth 20000 in
theorem ggL_law_X1_setCosts : GoodIn wsL_law wsX1_setCosts := goodIn_r _ [166, 42, 43, 77, 78, 79, 5, 80, 85, 86, 87, 88, 89, 578, 579, 580, 581, 582, 583, 584, 585, 586, 587, 588, 589, 590, 591, 592, 593] (by decide +kernel) (by decide +kernel)
set_option maxRecDepth 20000 in
theorem gL_law_X1_setCosts : GoodIn wsL_law (wsV RL 114 RX1 yX1_setCosts wsX1_setCosts) := goodIn_app (goodIn_r _ [163, 164, 165, 5] (by decide +kernel) (by decide +kernel)) ggL_law_X1_setCosts
set_option maxRecDepth 20000 in
theorem ggL_law_L_setSupport : GoodIn wsL_law wsL_setSupport := goodIn_ca (goodIn_r _ [169, 117, 170, 171, 172, 2, 173, 122, 123, 19, 562, 563, 564, 565, 566, 567, 568, 569, 570, 571, 572, 573, 574, 575, 576, 577] (by decide +kernel) (by decide +kernel)) (goodIn_sub (fun _ h => List.mem_append_left _ (List.mem_append_right _ h)) (by decide +kernel))
set_option maxRecDepth 20000 in
theorem gL_law_L_setSupport : GoodIn wsL_law (va_wsS RL 115 yL_setSupport wsL_setSupport) := goodIn_app (goodIn_r _ [167, 168, 48] (by decide +kernel) (by decide +kernel)) ggL_law_L_setSupport
set_option maxRecDepth 20000 in
theorem ggL_law_X1_setSupport : GoodIn wsL_law wsX1_setSupport := goodIn_r _ [177, 44, 77, 78, 79, 5, 80, 85, 86, 87, 88, 89, 578, 579, 580, 581, 582, 583, 584, 585, 586, 587, 588, 589, 590, 591, 592, 593] (by decide +kernel) (by decide +kernel)
set_option maxRecDepth 20000 in
theorem gL_law_X1_setSupport : GoodIn wsL_law (wsV RL 118 RX1 yX1_setSupport wsX1_setSupport) := goodIn_app (goodIn_r _ [174, 175, 176, 5] (by decide +kernel) (by decide +kernel)) ggL_law_X1_setSupport
set_option maxRecDepth 20000 in
theorem ggL_law_L_setPeriod : GoodIn wsL_law wsL_setPeriod := goodIn_ca (goodIn_r _ [180, 117, 181, 182, 183, 2, 184, 122, 123, 20, 562, 563, 564, 565, 566, 567, 568, 569, 570, 571, 572, 573, 574, 575, 576, 577] (by decide +kernel) (by decide +kernel)) (goodIn_sub (fun _ h => List.mem_append_left _ (List.mem_append_right _ h)) (by decide +kernel))
