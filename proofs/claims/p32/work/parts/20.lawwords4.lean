set_option maxRecDepth 20000 in
theorem ggL_law_L_holders : GoodIn wsL_law wsL_holders := goodIn_ca (goodIn_r _ [316, 112, 317, 318, 319, 2, 320, 117, 118, 119, 120, 121, 194, 195, 196, 197, 81, 82, 83, 84, 10, 331, 332, 333, 334, 335, 336, 337, 338, 339, 340, 341, 342, 343, 344, 345, 346] (by decide +kernel) (by decide +kernel)) (goodIn_sub (fun _ h => List.mem_append_left _ (List.mem_append_right _ h)) (by decide +kernel))
set_option maxRecDepth 20000 in
theorem gL_law_L_holders : GoodIn wsL_law (va_wsS RL 100 yL_holders wsL_holders) := goodIn_app (goodIn_r _ [314, 315, 29] (by decide +kernel) (by decide +kernel)) ggL_law_L_holders
set_option maxRecDepth 20000 in
theorem ggL_law_L_all : GoodIn wsL_law wsL_all := goodIn_ca (goodIn_ca (goodIn_r _ [110, 111, 112, 113, 114, 115, 2, 116, 43, 44, 117, 118, 10, 11, 17, 45, 46, 47, 119, 120, 121, 59, 60, 61, 56, 57, 58, 66, 67, 68, 69, 70, 71, 72, 331, 332, 333, 334, 335, 336, 337, 338, 339, 340, 341, 342, 343, 344, 345, 346] (by decide +kernel) (by decide +kernel)) (goodIn_sub (fun _ h => List.mem_append_left _ (List.mem_append_left _ (List.mem_append_right _ h))) (by decide +kernel))) (goodIn_sub (fun _ h => List.mem_append_left _ (List.mem_append_right _ h)) (by decide +kernel))
set_option maxRecDepth 20000 in
theorem gL_law_L_all : GoodIn wsL_law (va_wsS RL 119 yL_all wsL_all) := goodIn_app (goodIn_r _ [108, 109, 29] (by decide +kernel) (by decide +kernel)) ggL_law_L_all
set_option maxRecDepth 20000 in
theorem ggL_law_L_review : GoodIn wsL_law wsL_review := goodIn_ca (goodIn_ca (goodIn_r _ [166, 111, 167, 168, 169, 170, 2, 171, 43, 44, 172, 173, 10, 17, 11, 45, 46, 47, 129, 130, 131, 59, 60, 61, 56, 57, 58, 331, 332, 333, 334, 335, 336, 337, 338, 339, 340, 341, 342, 343, 344, 345, 346] (by decide +kernel) (by decide +kernel)) (goodIn_sub (fun _ h => List.mem_append_left _ (List.mem_append_left _ (List.mem_append_right _ h))) (by decide +kernel))) (goodIn_sub (fun _ h => List.mem_append_right _ h) (by decide +kernel))
set_option maxRecDepth 20000 in
theorem gL_law_L_review : GoodIn wsL_law (va_wsS RL 137 yL_review wsL_review) := goodIn_app (goodIn_r _ [164, 165, 29] (by decide +kernel) (by decide +kernel)) ggL_law_L_review
set_option maxRecDepth 20000 in
theorem ggL_law_L_clash : GoodIn wsL_law wsL_clash := goodIn_ca (goodIn_ca (goodIn_r _ [138, 111, 112, 139, 140, 141, 2, 142, 43, 44, 117, 118, 12, 129, 130, 131, 59, 60, 61, 331, 332, 333, 334, 335, 336, 337, 338, 339, 340, 341, 342, 343, 344, 345, 346] (by decide +kernel) (by decide +kernel)) (goodIn_sub (fun _ h => List.mem_append_left _ (List.mem_append_left _ (List.mem_append_right _ h))) (by decide +kernel))) (goodIn_sub (fun _ h => List.mem_append_left _ (List.mem_append_right _ h)) (by decide +kernel))
set_option maxRecDepth 20000 in
theorem gL_law_L_clash : GoodIn wsL_law (va_wsS RL 127 yL_clash wsL_clash) := goodIn_app (goodIn_r _ [136, 137, 29] (by decide +kernel) (by decide +kernel)) ggL_law_L_clash
