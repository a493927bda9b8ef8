theorem dL_cell_0 : decode cL_cell 0 = .ok (.iload_n 1, 1) := by decide +kernel
theorem dL_cell_1 : decode cL_cell 1 = .ok (.aload_n 0, 1) := by decide +kernel
theorem dL_cell_2 : decode cL_cell 2 = .ok (.arraylength, 1) := by decide +kernel
theorem dL_cell_3 : decode cL_cell 3 = .ok (.if_icmp .ge 9, 3) := by decide +kernel
theorem dL_cell_6 : decode cL_cell 6 = .ok (.aload_n 0, 1) := by decide +kernel
theorem dL_cell_7 : decode cL_cell 7 = .ok (.iload_n 1, 1) := by decide +kernel
theorem dL_cell_8 : decode cL_cell 8 = .ok (.iaload, 1) := by decide +kernel
theorem dL_cell_9 : decode cL_cell 9 = .ok (.goto 11, 3) := by decide +kernel
theorem dL_cell_12 : decode cL_cell 12 = .ok (.ldc 7, 2) := by decide +kernel
theorem dL_cell_14 : decode cL_cell 14 = .ok (.iload_n 1, 1) := by decide +kernel
theorem dL_cell_15 : decode cL_cell 15 = .ok (.imul, 1) := by decide +kernel
theorem dL_cell_16 : decode cL_cell 16 = .ok (.sipush 1091, 3) := by decide +kernel
theorem dL_cell_19 : decode cL_cell 19 = .ok (.iadd, 1) := by decide +kernel
theorem dL_cell_20 : decode cL_cell 20 = .ok (.ireturn, 1) := by decide +kernel
theorem dL_low_0 : decode cL_low 0 = .ok (.iload_n 0, 1) := by decide +kernel
theorem dL_low_1 : decode cL_low 1 = .ok (.ldc 8, 2) := by decide +kernel
theorem dL_low_3 : decode cL_low 3 = .ok (.iand, 1) := by decide +kernel
theorem dL_low_4 : decode cL_low 4 = .ok (.iload_n 1, 1) := by decide +kernel
theorem dL_low_5 : decode cL_low 5 = .ok (.irem, 1) := by decide +kernel
theorem dL_low_6 : decode cL_low 6 = .ok (.ireturn, 1) := by decide +kernel
theorem dL_size_0 : decode cL_size 0 = .ok (.iconst 0, 1) := by decide +kernel
theorem dL_size_1 : decode cL_size 1 = .ok (.istore_n 1, 1) := by decide +kernel
theorem dL_size_2 : decode cL_size 2 = .ok (.iconst 0, 1) := by decide +kernel
theorem dL_size_3 : decode cL_size 3 = .ok (.istore_n 2, 1) := by decide +kernel
theorem dL_size_4 : decode cL_size 4 = .ok (.iload_n 2, 1) := by decide +kernel
theorem dL_size_5 : decode cL_size 5 = .ok (.bipush 12, 2) := by decide +kernel
theorem dL_size_7 : decode cL_size 7 = .ok (.if_icmp .ge 17, 3) := by decide +kernel
theorem dL_size_10 : decode cL_size 10 = .ok (.iload_n 1, 1) := by decide +kernel
theorem dL_size_11 : decode cL_size 11 = .ok (.iload_n 0, 1) := by decide +kernel
theorem dL_size_12 : decode cL_size 12 = .ok (.iload_n 2, 1) := by decide +kernel
theorem dL_size_13 : decode cL_size 13 = .ok (.ishr, 1) := by decide +kernel
theorem dL_size_14 : decode cL_size 14 = .ok (.iconst 1, 1) := by decide +kernel
theorem dL_size_15 : decode cL_size 15 = .ok (.iand, 1) := by decide +kernel
theorem dL_size_16 : decode cL_size 16 = .ok (.iadd, 1) := by decide +kernel
theorem dL_size_17 : decode cL_size 17 = .ok (.istore_n 1, 1) := by decide +kernel
theorem dL_size_18 : decode cL_size 18 = .ok (.iinc 2 1, 3) := by decide +kernel
theorem dL_size_21 : decode cL_size 21 = .ok (.goto (-17), 3) := by decide +kernel
theorem dL_size_24 : decode cL_size 24 = .ok (.iload_n 1, 1) := by decide +kernel
theorem dL_size_25 : decode cL_size 25 = .ok (.ireturn, 1) := by decide +kernel
set_option maxRecDepth 20000 in
theorem ggL_granted_X0_grant : GoodIn wsL_granted wsX0_grant := goodIn_ca (goodIn_r _ [6, 7, 8, 9, 10, 11, 12, 13, 5, 14, 15, 16, 17, 18, 19, 20, 21, 22, 23, 28, 29, 30, 31, 32, 33, 34, 35, 36, 37, 38, 39, 40, 41, 42, 43] (by decide +kernel) (by decide +kernel)) (goodIn_sub (fun _ h => List.mem_cons_of_mem _ (List.mem_append_right _ h)) (by decide +kernel))
set_option maxRecDepth 20000 in
theorem gL_granted_X0_grant : GoodIn wsL_granted (wsV RL 9 RX0 yX0_grant wsX0_grant) := goodIn_app (goodIn_of _ (by decide +kernel)) ggL_granted_X0_grant
set_option maxRecDepth 20000 in
theorem ggL_granted_X0_revoke : GoodIn wsL_granted wsX0_revoke := goodIn_ca (goodIn_r _ [27, 7, 8, 9, 12, 13, 5, 14, 15, 16, 17, 18, 19, 20, 28, 29, 30, 31, 32, 33, 34, 35, 36, 37, 38, 39, 40, 41, 42, 43] (by decide +kernel) (by decide +kernel)) (goodIn_sub (fun _ h => List.mem_cons_of_mem _ (List.mem_append_right _ h)) (by decide +kernel))
set_option maxRecDepth 20000 in
theorem gL_granted_X0_revoke : GoodIn wsL_granted (wsV RL 15 RX0 yX0_revoke wsX0_revoke) := goodIn_app (goodIn_of _ (by decide +kernel)) ggL_granted_X0_revoke
theorem dL_granted_0 : decode cL_granted 0 = .ok (.iload_n 3, 1) := by decide +kernel
theorem dL_granted_1 : decode cL_granted 1 = .ok (.ifCond .eq 15, 3) := by decide +kernel
theorem dL_granted_4 : decode cL_granted 4 = .ok (.aload_n 0, 1) := by decide +kernel
theorem dL_granted_5 : decode cL_granted 5 = .ok (.iload_n 1, 1) := by decide +kernel
theorem dL_granted_6 : decode cL_granted 6 = .ok (.iload_n 2, 1) := by decide +kernel
theorem dL_granted_7 : decode cL_granted 7 = .ok (.invokevirtual 9, 3) := by decide +kernel
theorem dL_granted_10 : decode cL_granted 10 = .ok (.ifCond .eq 19, 3) := by decide +kernel
theorem dL_granted_13 : decode cL_granted 13 = .ok (.goto 12, 3) := by decide +kernel
theorem dL_granted_16 : decode cL_granted 16 = .ok (.aload_n 0, 1) := by decide +kernel
theorem dL_granted_17 : decode cL_granted 17 = .ok (.iload_n 1, 1) := by decide +kernel
theorem dL_granted_18 : decode cL_granted 18 = .ok (.iload_n 2, 1) := by decide +kernel
theorem dL_granted_19 : decode cL_granted 19 = .ok (.invokevirtual 15, 3) := by decide +kernel
theorem dL_granted_22 : decode cL_granted 22 = .ok (.ifCond .eq 7, 3) := by decide +kernel
theorem dL_granted_25 : decode cL_granted 25 = .ok (.iconst 1, 1) := by decide +kernel
theorem dL_granted_26 : decode cL_granted 26 = .ok (.goto 4, 3) := by decide +kernel
theorem dL_granted_29 : decode cL_granted 29 = .ok (.iconst 0, 1) := by decide +kernel
theorem dL_granted_30 : decode cL_granted 30 = .ok (.ireturn, 1) := by decide +kernel
theorem dL_granted_31 : decode cL_granted 31 = .ok (.astore 4, 2) := by decide +kernel
theorem dL_granted_33 : decode cL_granted 33 = .ok (.bipush (-2), 2) := by decide +kernel
theorem dL_granted_35 : decode cL_granted 35 = .ok (.ireturn, 1) := by decide +kernel
set_option maxRecDepth 20000 in
theorem ggL_all_X0_setGrants : GoodIn wsL_all wsX0_setGrants := goodIn_ca (goodIn_ca (goodIn_r _ [7, 8, 9, 10, 11, 12, 13, 14, 15, 16, 6, 17, 18, 19, 20, 21, 22, 23, 24, 25, 26, 27, 28, 29, 30, 31, 32, 33, 34, 35, 36, 37, 38, 39, 40, 41, 42, 43, 44, 45, 46, 47, 48, 49] (by decide +kernel) (by decide +kernel)) (goodIn_sub (fun _ h => List.mem_cons_of_mem _ (List.mem_append_left _ (List.mem_append_right _ h))) (by decide +kernel))) (goodIn_sub (fun _ h => List.mem_cons_of_mem _ (List.mem_append_right _ h)) (by decide +kernel))
set_option maxRecDepth 20000 in
theorem gL_all_X0_setGrants : GoodIn wsL_all (wsV RL 20 RX0 yX0_setGrants wsX0_setGrants) := goodIn_app (goodIn_of _ (by decide +kernel)) ggL_all_X0_setGrants
theorem dL_all_0 : decode cL_all 0 = .ok (.aload_n 0, 1) := by decide +kernel
theorem dL_all_1 : decode cL_all 1 = .ok (.iload_n 1, 1) := by decide +kernel
theorem dL_all_2 : decode cL_all 2 = .ok (.iload_n 2, 1) := by decide +kernel
theorem dL_all_3 : decode cL_all 3 = .ok (.invokevirtual 20, 3) := by decide +kernel
theorem dL_all_6 : decode cL_all 6 = .ok (.ireturn, 1) := by decide +kernel
theorem dL_all_7 : decode cL_all 7 = .ok (.astore_n 3, 1) := by decide +kernel
theorem dL_all_8 : decode cL_all 8 = .ok (.bipush (-2), 2) := by decide +kernel
theorem dL_all_10 : decode cL_all 10 = .ok (.ireturn, 1) := by decide +kernel
theorem dL_all_11 : decode cL_all 11 = .ok (.astore_n 3, 1) := by decide +kernel
theorem dL_all_12 : decode cL_all 12 = .ok (.bipush (-3), 2) := by decide +kernel
theorem dL_all_14 : decode cL_all 14 = .ok (.ireturn, 1) := by decide +kernel
set_option maxRecDepth 20000 in
theorem ggL_clash_X0_setConflict : GoodIn wsL_clash wsX0_setConflict := goodIn_ca (goodIn_ca (goodIn_r _ [7, 8, 9, 10, 11, 12, 13, 14, 6, 15, 16, 17, 18, 19, 20, 21, 22, 23, 24, 25, 26, 27, 28, 29, 30, 31, 32, 33, 34] (by decide +kernel) (by decide +kernel)) (goodIn_sub (fun _ h => List.mem_cons_of_mem _ (List.mem_append_left _ (List.mem_append_right _ h))) (by decide +kernel))) (goodIn_sub (fun _ h => List.mem_cons_of_mem _ (List.mem_append_right _ h)) (by decide +kernel))
set_option maxRecDepth 20000 in
theorem gL_clash_X0_setConflict : GoodIn wsL_clash (wsV RL 26 RX0 yX0_setConflict wsX0_setConflict) := goodIn_app (goodIn_of _ (by decide +kernel)) ggL_clash_X0_setConflict
theorem dL_clash_0 : decode cL_clash 0 = .ok (.aload_n 0, 1) := by decide +kernel
theorem dL_clash_1 : decode cL_clash 1 = .ok (.iload_n 1, 1) := by decide +kernel
theorem dL_clash_2 : decode cL_clash 2 = .ok (.iload_n 2, 1) := by decide +kernel
theorem dL_clash_3 : decode cL_clash 3 = .ok (.iload_n 3, 1) := by decide +kernel
theorem dL_clash_4 : decode cL_clash 4 = .ok (.invokevirtual 26, 3) := by decide +kernel
theorem dL_clash_7 : decode cL_clash 7 = .ok (.ifCond .eq 7, 3) := by decide +kernel
theorem dL_clash_10 : decode cL_clash 10 = .ok (.iconst 1, 1) := by decide +kernel
theorem dL_clash_11 : decode cL_clash 11 = .ok (.goto 4, 3) := by decide +kernel
theorem dL_clash_14 : decode cL_clash 14 = .ok (.iconst 0, 1) := by decide +kernel
theorem dL_clash_15 : decode cL_clash 15 = .ok (.ireturn, 1) := by decide +kernel
theorem dL_clash_16 : decode cL_clash 16 = .ok (.astore 4, 2) := by decide +kernel
theorem dL_clash_18 : decode cL_clash 18 = .ok (.bipush (-2), 2) := by decide +kernel
theorem dL_clash_20 : decode cL_clash 20 = .ok (.ireturn, 1) := by decide +kernel
theorem dL_clash_21 : decode cL_clash 21 = .ok (.astore 4, 2) := by decide +kernel
theorem dL_clash_23 : decode cL_clash 23 = .ok (.bipush (-3), 2) := by decide +kernel
theorem dL_clash_25 : decode cL_clash 25 = .ok (.ireturn, 1) := by decide +kernel
set_option maxRecDepth 20000 in
theorem ggL_costs_X0_setCosts : GoodIn wsL_costs wsX0_setCosts := goodIn_ca (goodIn_r _ [6, 7, 8, 9, 10, 11, 12, 5, 13, 14, 15, 16, 17, 18, 19, 20, 21, 22, 23, 24, 25, 26, 27, 28, 29] (by decide +kernel) (by decide +kernel)) (goodIn_sub (fun _ h => List.mem_cons_of_mem _ (List.mem_append_right _ h)) (by decide +kernel))
set_option maxRecDepth 20000 in
theorem gL_costs_X0_setCosts : GoodIn wsL_costs (wsV RL 30 RX0 yX0_setCosts wsX0_setCosts) := goodIn_app (goodIn_of _ (by decide +kernel)) ggL_costs_X0_setCosts
theorem dL_costs_0 : decode cL_costs 0 = .ok (.aload_n 0, 1) := by decide +kernel
theorem dL_costs_1 : decode cL_costs 1 = .ok (.iload_n 1, 1) := by decide +kernel
theorem dL_costs_2 : decode cL_costs 2 = .ok (.iload_n 2, 1) := by decide +kernel
theorem dL_costs_3 : decode cL_costs 3 = .ok (.invokevirtual 30, 3) := by decide +kernel
theorem dL_costs_6 : decode cL_costs 6 = .ok (.iconst 0, 1) := by decide +kernel
theorem dL_costs_7 : decode cL_costs 7 = .ok (.ireturn, 1) := by decide +kernel
theorem dL_costs_8 : decode cL_costs 8 = .ok (.astore_n 3, 1) := by decide +kernel
theorem dL_costs_9 : decode cL_costs 9 = .ok (.bipush (-3), 2) := by decide +kernel
theorem dL_costs_11 : decode cL_costs 11 = .ok (.ireturn, 1) := by decide +kernel
set_option maxRecDepth 20000 in
theorem ggL_setting_X0_setSupport : GoodIn wsL_setting wsX0_setSupport := goodIn_ca (goodIn_r _ [6, 7, 8, 9, 15, 16, 17, 18, 19, 20, 21, 22, 23, 24, 25, 26, 27, 28, 29, 30] (by decide +kernel) (by decide +kernel)) (goodIn_sub (fun _ h => List.mem_cons_of_mem _ (List.mem_append_right _ h)) (by decide +kernel))
set_option maxRecDepth 20000 in
theorem gL_setting_X0_setSupport : GoodIn wsL_setting (wsV RL 34 RX0 yX0_setSupport wsX0_setSupport) := goodIn_app (goodIn_of _ (by decide +kernel)) ggL_setting_X0_setSupport
set_option maxRecDepth 20000 in
theorem ggL_setting_X0_setPeriod : GoodIn wsL_setting wsX0_setPeriod := goodIn_ca (goodIn_r _ [13, 7, 8, 14, 15, 16, 17, 18, 19, 20, 21, 22, 23, 24, 25, 26, 27, 28, 29, 30] (by decide +kernel) (by decide +kernel)) (goodIn_sub (fun _ h => List.mem_cons_of_mem _ (List.mem_append_right _ h)) (by decide +kernel))
set_option maxRecDepth 20000 in
theorem gL_setting_X0_setPeriod : GoodIn wsL_setting (wsV RL 38 RX0 yX0_setPeriod wsX0_setPeriod) := goodIn_app (goodIn_of _ (by decide +kernel)) ggL_setting_X0_setPeriod
theorem dL_setting_0 : decode cL_setting 0 = .ok (.iload_n 1, 1) := by decide +kernel
theorem dL_setting_1 : decode cL_setting 1 = .ok (.ifCond .eq 11, 3) := by decide +kernel
theorem dL_setting_4 : decode cL_setting 4 = .ok (.aload_n 0, 1) := by decide +kernel
theorem dL_setting_5 : decode cL_setting 5 = .ok (.iload_n 2, 1) := by decide +kernel
theorem dL_setting_6 : decode cL_setting 6 = .ok (.invokevirtual 34, 3) := by decide +kernel
theorem dL_setting_9 : decode cL_setting 9 = .ok (.goto 8, 3) := by decide +kernel
theorem dL_setting_12 : decode cL_setting 12 = .ok (.aload_n 0, 1) := by decide +kernel
theorem dL_setting_13 : decode cL_setting 13 = .ok (.iload_n 2, 1) := by decide +kernel
theorem dL_setting_14 : decode cL_setting 14 = .ok (.invokevirtual 38, 3) := by decide +kernel
theorem dL_setting_17 : decode cL_setting 17 = .ok (.ireturn, 1) := by decide +kernel
theorem dL_setting_18 : decode cL_setting 18 = .ok (.astore_n 3, 1) := by decide +kernel
theorem dL_setting_19 : decode cL_setting 19 = .ok (.bipush (-3), 2) := by decide +kernel
theorem dL_setting_21 : decode cL_setting 21 = .ok (.ireturn, 1) := by decide +kernel
set_option maxRecDepth 20000 in
theorem ggL_review_X0_review : GoodIn wsL_review wsX0_review := goodIn_ca (goodIn_ca (goodIn_r _ [7, 8, 9, 10, 11, 12, 13, 14, 15, 16, 6, 17, 18, 19, 20, 21, 22, 23, 24, 25, 26, 27, 28, 29, 30, 31, 32, 33, 34, 35, 36, 37, 38, 39, 40, 41, 42] (by decide +kernel) (by decide +kernel)) (goodIn_sub (fun _ h => List.mem_cons_of_mem _ (List.mem_append_left _ (List.mem_append_right _ h))) (by decide +kernel))) (goodIn_sub (fun _ h => List.mem_cons_of_mem _ (List.mem_append_right _ h)) (by decide +kernel))
set_option maxRecDepth 20000 in
theorem gL_review_X0_review : GoodIn wsL_review (wsV RL 41 RX0 yX0_review wsX0_review) := goodIn_app (goodIn_of _ (by decide +kernel)) ggL_review_X0_review
theorem dL_review_0 : decode cL_review 0 = .ok (.aload_n 0, 1) := by decide +kernel
theorem dL_review_1 : decode cL_review 1 = .ok (.iload_n 1, 1) := by decide +kernel
theorem dL_review_2 : decode cL_review 2 = .ok (.iload_n 2, 1) := by decide +kernel
theorem dL_review_3 : decode cL_review 3 = .ok (.invokevirtual 41, 3) := by decide +kernel
theorem dL_review_6 : decode cL_review 6 = .ok (.ireturn, 1) := by decide +kernel
theorem dL_review_7 : decode cL_review 7 = .ok (.astore_n 3, 1) := by decide +kernel
theorem dL_review_8 : decode cL_review 8 = .ok (.bipush (-2), 2) := by decide +kernel
theorem dL_review_10 : decode cL_review 10 = .ok (.ireturn, 1) := by decide +kernel
theorem dL_review_11 : decode cL_review 11 = .ok (.astore_n 3, 1) := by decide +kernel
theorem dL_review_12 : decode cL_review 12 = .ok (.bipush (-4), 2) := by decide +kernel
theorem dL_review_14 : decode cL_review 14 = .ok (.ireturn, 1) := by decide +kernel
set_option maxRecDepth 20000 in
theorem ggL_quarter_X0_nextQuarter : GoodIn wsL_quarter wsX0_nextQuarter := goodIn_ca (goodIn_r _ [6, 7, 8, 9, 10, 11, 12, 13, 5, 14, 15, 16, 17, 18, 19, 20, 21, 22, 23, 24, 25, 26, 27, 28, 29, 30, 31, 32, 33, 34, 35, 36, 37, 38, 39, 40, 41, 42, 43, 44, 45] (by decide +kernel) (by decide +kernel)) (goodIn_sub (fun _ h => List.mem_cons_of_mem _ (List.mem_append_right _ h)) (by decide +kernel))
set_option maxRecDepth 20000 in
theorem gL_quarter_X0_nextQuarter : GoodIn wsL_quarter (wsV RL 46 RX0 yX0_nextQuarter wsX0_nextQuarter) := goodIn_app (goodIn_of _ (by decide +kernel)) ggL_quarter_X0_nextQuarter
theorem dL_quarter_0 : decode cL_quarter 0 = .ok (.aload_n 0, 1) := by decide +kernel
theorem dL_quarter_1 : decode cL_quarter 1 = .ok (.invokevirtual 46, 3) := by decide +kernel
theorem dL_quarter_4 : decode cL_quarter 4 = .ok (.ireturn, 1) := by decide +kernel
theorem dL_quarter_5 : decode cL_quarter 5 = .ok (.astore_n 1, 1) := by decide +kernel
theorem dL_quarter_6 : decode cL_quarter 6 = .ok (.bipush (-4), 2) := by decide +kernel
theorem dL_quarter_8 : decode cL_quarter 8 = .ok (.ireturn, 1) := by decide +kernel
set_option maxRecDepth 20000 in
theorem ggL_best_X0_mineBest : GoodIn wsL_best wsX0_mineBest := goodIn_ca (goodIn_r _ [6, 7, 8, 9, 10, 11, 12, 13, 14, 15, 5, 16, 17, 18, 19, 20, 21, 22, 23, 24, 25, 26, 27, 28, 29, 30, 31, 32, 33, 34, 35, 36, 37, 38, 39, 40, 41, 42, 43, 44, 45, 46, 47, 48, 49, 50, 51, 52, 53, 54, 55, 56, 57, 58, 59, 60, 61, 62, 63, 64, 65, 66, 67, 68, 69, 70, 71, 72, 73, 74, 75, 76, 77, 78, 79, 80, 81, 82, 83, 84, 85, 86, 87, 88, 89, 90, 91, 92, 93, 94, 95, 96, 97, 98, 99, 100, 101, 102, 103, 104, 105, 106, 107, 108, 109, 110, 111, 112, 113, 114, 115, 116, 117, 118] (by decide +kernel) (by decide +kernel)) (goodIn_sub (fun _ h => List.mem_cons_of_mem _ (List.mem_append_right _ h)) (by decide +kernel))
set_option maxRecDepth 20000 in
theorem gL_best_X0_mineBest : GoodIn wsL_best (wsV RL 50 RX0 yX0_mineBest wsX0_mineBest) := goodIn_app (goodIn_of _ (by decide +kernel)) ggL_best_X0_mineBest
theorem dL_best_0 : decode cL_best 0 = .ok (.aload_n 0, 1) := by decide +kernel
theorem dL_best_1 : decode cL_best 1 = .ok (.invokevirtual 50, 3) := by decide +kernel
theorem dL_best_4 : decode cL_best 4 = .ok (.ireturn, 1) := by decide +kernel
theorem dL_best_5 : decode cL_best 5 = .ok (.astore_n 1, 1) := by decide +kernel
theorem dL_best_6 : decode cL_best 6 = .ok (.bipush (-4), 2) := by decide +kernel
theorem dL_best_8 : decode cL_best 8 = .ok (.ireturn, 1) := by decide +kernel
set_option maxRecDepth 20000 in
theorem ggL_least_X0_leastCost : GoodIn wsL_least wsX0_leastCost := goodIn_ca (goodIn_r _ [6, 7, 8, 9, 10, 11, 12, 5, 13, 14, 15, 16, 17, 18, 19, 20, 21, 22, 23, 24, 25, 26, 27, 28, 29, 30, 31, 32, 33, 34, 35, 36, 37, 38, 39, 40, 41, 42, 43, 44, 45, 46, 47, 48, 49, 50, 51, 52, 53, 54, 55, 56, 57, 58, 59, 60, 61, 62, 63, 64, 65, 66, 67, 68, 69, 70, 71, 72, 73, 74, 75, 76, 77, 78, 79, 80, 81, 82, 83, 84, 85, 86, 87, 88, 89, 90, 91, 92, 93, 94, 95, 96, 97, 98, 99, 100, 101, 102, 103, 104, 105, 106, 107, 108, 109, 110, 111, 112, 113, 114, 115, 116] (by decide +kernel) (by decide +kernel)) (goodIn_sub (fun _ h => List.mem_cons_of_mem _ (List.mem_append_right _ h)) (by decide +kernel))
set_option maxRecDepth 20000 in
theorem gL_least_X0_leastCost : GoodIn wsL_least (wsV RL 53 RX0 yX0_leastCost wsX0_leastCost) := goodIn_app (goodIn_of _ (by decide +kernel)) ggL_least_X0_leastCost
theorem dL_least_0 : decode cL_least 0 = .ok (.aload_n 0, 1) := by decide +kernel
theorem dL_least_1 : decode cL_least 1 = .ok (.invokevirtual 53, 3) := by decide +kernel
theorem dL_least_4 : decode cL_least 4 = .ok (.ireturn, 1) := by decide +kernel
theorem dL_least_5 : decode cL_least 5 = .ok (.astore_n 1, 1) := by decide +kernel
theorem dL_least_6 : decode cL_least 6 = .ok (.bipush (-4), 2) := by decide +kernel
theorem dL_least_8 : decode cL_least 8 = .ok (.ireturn, 1) := by decide +kernel
set_option maxRecDepth 20000 in
theorem ggL_price_X0_costOf : GoodIn wsL_price wsX0_costOf := goodIn_ca (goodIn_ca (goodIn_r _ [7, 8, 9, 10, 11, 12, 13, 14, 15, 6, 16, 17, 18, 19, 20, 21, 22, 23, 24, 25, 26, 27, 28, 29, 30, 31, 32, 33, 34, 35, 36, 37, 38, 39, 40, 41, 42, 43, 44, 45, 46, 47, 48, 49, 50, 51, 52, 53, 54, 55, 56, 57, 58, 59, 60, 61, 62, 63, 64, 65, 66, 67, 68, 69, 70, 71, 72, 73, 74, 75, 76, 77, 78, 79, 80, 81, 82, 83, 84, 85, 86, 87, 88, 89, 90, 91, 92, 93, 94, 95, 96, 97, 98, 99, 100, 101] (by decide +kernel) (by decide +kernel)) (goodIn_sub (fun _ h => List.mem_cons_of_mem _ (List.mem_append_left _ (List.mem_append_right _ h))) (by decide +kernel))) (goodIn_sub (fun _ h => List.mem_cons_of_mem _ (List.mem_append_right _ h)) (by decide +kernel))
set_option maxRecDepth 20000 in
theorem gL_price_X0_costOf : GoodIn wsL_price (wsV RL 56 RX0 yX0_costOf wsX0_costOf) := goodIn_app (goodIn_of _ (by decide +kernel)) ggL_price_X0_costOf
theorem dL_price_0 : decode cL_price 0 = .ok (.aload_n 0, 1) := by decide +kernel
theorem dL_price_1 : decode cL_price 1 = .ok (.iload_n 1, 1) := by decide +kernel
theorem dL_price_2 : decode cL_price 2 = .ok (.invokevirtual 56, 3) := by decide +kernel
theorem dL_price_5 : decode cL_price 5 = .ok (.ireturn, 1) := by decide +kernel
theorem dL_price_6 : decode cL_price 6 = .ok (.astore_n 2, 1) := by decide +kernel
theorem dL_price_7 : decode cL_price 7 = .ok (.bipush (-4), 2) := by decide +kernel
theorem dL_price_9 : decode cL_price 9 = .ok (.ireturn, 1) := by decide +kernel
theorem dL_price_10 : decode cL_price 10 = .ok (.astore_n 2, 1) := by decide +kernel
theorem dL_price_11 : decode cL_price 11 = .ok (.bipush (-3), 2) := by decide +kernel
theorem dL_price_13 : decode cL_price 13 = .ok (.ireturn, 1) := by decide +kernel
set_option maxRecDepth 20000 in
theorem ggL_candidate_X0_candidate : GoodIn wsL_candidate wsX0_candidate := goodIn_ca (goodIn_r _ [6, 7, 8, 9, 10, 11, 12, 13, 5, 14, 15, 16, 17, 18, 19, 20, 21, 22, 23, 24, 25, 26, 27, 28, 29, 30, 31, 32, 33, 34, 35, 36, 37, 38, 39, 40, 41, 42, 43, 44, 45, 46, 47, 48, 49, 50, 51, 52, 53, 54, 55, 56, 57, 58, 59, 60, 61, 62, 63, 64, 65, 66, 67, 68, 69, 70, 71, 72, 73, 74, 75, 76, 77, 78, 79, 80] (by decide +kernel) (by decide +kernel)) (goodIn_sub (fun _ h => List.mem_cons_of_mem _ (List.mem_append_right _ h)) (by decide +kernel))
set_option maxRecDepth 20000 in
theorem gL_candidate_X0_candidate : GoodIn wsL_candidate (wsV RL 59 RX0 yX0_candidate wsX0_candidate) := goodIn_app (goodIn_of _ (by decide +kernel)) ggL_candidate_X0_candidate
theorem dL_candidate_0 : decode cL_candidate 0 = .ok (.aload_n 0, 1) := by decide +kernel
theorem dL_candidate_1 : decode cL_candidate 1 = .ok (.iload_n 1, 1) := by decide +kernel
theorem dL_candidate_2 : decode cL_candidate 2 = .ok (.invokevirtual 59, 3) := by decide +kernel
theorem dL_candidate_5 : decode cL_candidate 5 = .ok (.ireturn, 1) := by decide +kernel
theorem dL_candidate_6 : decode cL_candidate 6 = .ok (.astore_n 2, 1) := by decide +kernel
theorem dL_candidate_7 : decode cL_candidate 7 = .ok (.bipush (-2), 2) := by decide +kernel
theorem dL_candidate_9 : decode cL_candidate 9 = .ok (.ireturn, 1) := by decide +kernel
set_option maxRecDepth 20000 in
theorem ggL_role_X0_role : GoodIn wsL_role wsX0_role := goodIn_ca (goodIn_r _ [6, 7, 8, 9, 10, 11, 12, 13, 14, 15, 16, 17, 18, 19, 20, 21, 22, 23, 24, 25, 26] (by decide +kernel) (by decide +kernel)) (goodIn_sub (fun _ h => List.mem_cons_of_mem _ (List.mem_append_right _ h)) (by decide +kernel))
set_option maxRecDepth 20000 in
theorem gL_role_X0_role : GoodIn wsL_role (wsV RL 62 RX0 yX0_role wsX0_role) := goodIn_app (goodIn_of _ (by decide +kernel)) ggL_role_X0_role
theorem dL_role_0 : decode cL_role 0 = .ok (.aload_n 0, 1) := by decide +kernel
theorem dL_role_1 : decode cL_role 1 = .ok (.iload_n 1, 1) := by decide +kernel
theorem dL_role_2 : decode cL_role 2 = .ok (.invokevirtual 62, 3) := by decide +kernel
theorem dL_role_5 : decode cL_role 5 = .ok (.ireturn, 1) := by decide +kernel
theorem dL_role_6 : decode cL_role 6 = .ok (.astore_n 2, 1) := by decide +kernel
theorem dL_role_7 : decode cL_role 7 = .ok (.bipush (-2), 2) := by decide +kernel
theorem dL_role_9 : decode cL_role 9 = .ok (.ireturn, 1) := by decide +kernel
set_option maxRecDepth 20000 in
theorem ggL_holders_X0_holders : GoodIn wsL_holders wsX0_holders := goodIn_ca (goodIn_r _ [6, 7, 8, 9, 10, 5, 11, 12, 13, 14, 15, 16, 17, 18, 19, 20, 21, 22, 23, 24, 25, 26, 27, 28, 29, 30, 31, 32, 33, 34, 35, 36] (by decide +kernel) (by decide +kernel)) (goodIn_sub (fun _ h => List.mem_cons_of_mem _ (List.mem_append_right _ h)) (by decide +kernel))
set_option maxRecDepth 20000 in
theorem gL_holders_X0_holders : GoodIn wsL_holders (wsV RL 65 RX0 yX0_holders wsX0_holders) := goodIn_app (goodIn_of _ (by decide +kernel)) ggL_holders_X0_holders
theorem dL_holders_0 : decode cL_holders 0 = .ok (.aload_n 0, 1) := by decide +kernel
theorem dL_holders_1 : decode cL_holders 1 = .ok (.iload_n 1, 1) := by decide +kernel
theorem dL_holders_2 : decode cL_holders 2 = .ok (.invokevirtual 65, 3) := by decide +kernel
theorem dL_holders_5 : decode cL_holders 5 = .ok (.ireturn, 1) := by decide +kernel
theorem dL_holders_6 : decode cL_holders 6 = .ok (.astore_n 2, 1) := by decide +kernel
theorem dL_holders_7 : decode cL_holders 7 = .ok (.bipush (-3), 2) := by decide +kernel
theorem dL_holders_9 : decode cL_holders 9 = .ok (.ireturn, 1) := by decide +kernel
set_option maxRecDepth 20000 in
theorem ggL_tell_X0_permissions : GoodIn wsL_tell wsX0_permissions := goodIn_ca (goodIn_r _ [6, 7, 8, 9, 10, 11, 5, 12, 78, 79, 80, 81, 82, 83, 84, 85, 86, 87, 88, 89, 90, 91, 92, 93] (by decide +kernel) (by decide +kernel)) (goodIn_sub (fun _ h => List.mem_cons_of_mem _ (List.mem_append_right _ h)) (by decide +kernel))
set_option maxRecDepth 20000 in
theorem gL_tell_X0_permissions : GoodIn wsL_tell (wsV RL 68 RX0 yX0_permissions wsX0_permissions) := goodIn_app (goodIn_of _ (by decide +kernel)) ggL_tell_X0_permissions
set_option maxRecDepth 20000 in
theorem ggL_tell_X0_due : GoodIn wsL_tell wsX0_due := goodIn_ca (goodIn_r _ [16, 7, 8, 17, 10, 11, 5, 12, 18, 19, 20, 21, 22, 9, 23, 24, 25, 26, 27, 28, 29, 78, 79, 80, 81, 82, 83, 84, 85, 86, 87, 88, 89, 90, 91, 92, 93] (by decide +kernel) (by decide +kernel)) (goodIn_sub (fun _ h => List.mem_cons_of_mem _ (List.mem_append_right _ h)) (by decide +kernel))
set_option maxRecDepth 20000 in
theorem gL_tell_X0_due : GoodIn wsL_tell (wsV RL 71 RX0 yX0_due wsX0_due) := goodIn_app (goodIn_of _ (by decide +kernel)) ggL_tell_X0_due
set_option maxRecDepth 20000 in
theorem ggL_tell_X0_violations : GoodIn wsL_tell wsX0_violations := goodIn_ca (goodIn_r _ [33, 7, 8, 9, 34, 10, 11, 5, 12, 27, 28, 29, 35, 36, 37, 38, 39, 40, 41, 78, 79, 80, 81, 82, 83, 84, 85, 86, 87, 88, 89, 90, 91, 92, 93] (by decide +kernel) (by decide +kernel)) (goodIn_sub (fun _ h => List.mem_cons_of_mem _ (List.mem_append_right _ h)) (by decide +kernel))
set_option maxRecDepth 20000 in
theorem gL_tell_X0_violations : GoodIn wsL_tell (wsV RL 74 RX0 yX0_violations wsX0_violations) := goodIn_app (goodIn_of _ (by decide +kernel)) ggL_tell_X0_violations
set_option maxRecDepth 20000 in
theorem ggL_tell_X0_byRoles : GoodIn wsL_tell wsX0_byRoles := goodIn_ca (goodIn_r _ [45, 7, 8, 10, 11, 5, 12, 46, 47, 48, 49, 50, 51, 52, 53, 54, 55, 9, 78, 79, 80, 81, 82, 83, 84, 85, 86, 87, 88, 89, 90, 91, 92, 93] (by decide +kernel) (by decide +kernel)) (goodIn_sub (fun _ h => List.mem_cons_of_mem _ (List.mem_append_right _ h)) (by decide +kernel))
set_option maxRecDepth 20000 in
theorem gL_tell_X0_byRoles : GoodIn wsL_tell (wsV RL 77 RX0 yX0_byRoles wsX0_byRoles) := goodIn_app (goodIn_of _ (by decide +kernel)) ggL_tell_X0_byRoles
set_option maxRecDepth 20000 in
theorem ggL_tell_X0_quarter : GoodIn wsL_tell wsX0_quarter := goodIn_r _ [59, 17, 78, 79, 80, 81, 82, 83, 84, 85, 86, 87, 88, 89, 90, 91, 92, 93] (by decide +kernel) (by decide +kernel)
set_option maxRecDepth 20000 in
theorem gL_tell_X0_quarter : GoodIn wsL_tell (wsV RL 80 RX0 yX0_quarter wsX0_quarter) := goodIn_app (goodIn_of _ (by decide +kernel)) ggL_tell_X0_quarter
set_option maxRecDepth 20000 in
theorem ggL_tell_X0_roles : GoodIn wsL_tell wsX0_roles := goodIn_r _ [63, 50, 78, 79, 80, 81, 82, 83, 84, 85, 86, 87, 88, 89, 90, 91, 92, 93] (by decide +kernel) (by decide +kernel)
set_option maxRecDepth 20000 in
theorem gL_tell_X0_roles : GoodIn wsL_tell (wsV RL 83 RX0 yX0_roles wsX0_roles) := goodIn_app (goodIn_of _ (by decide +kernel)) ggL_tell_X0_roles
set_option maxRecDepth 20000 in
theorem ggL_tell_X0_cost : GoodIn wsL_tell wsX0_cost := goodIn_r _ [67, 9, 68, 50, 69, 46, 47, 48, 5, 49, 51, 52, 53, 54, 55, 35, 36, 37, 38, 39, 40, 41, 78, 79, 80, 81, 82, 83, 84, 85, 86, 87, 88, 89, 90, 91, 92, 93] (by decide +kernel) (by decide +kernel)
set_option maxRecDepth 20000 in
theorem gL_tell_X0_cost : GoodIn wsL_tell (wsV RL 86 RX0 yX0_cost wsX0_cost) := goodIn_app (goodIn_of _ (by decide +kernel)) ggL_tell_X0_cost
set_option maxRecDepth 20000 in
theorem ggL_tell_X0_grants : GoodIn wsL_tell wsX0_grants := goodIn_r _ [73, 9, 35, 36, 37, 38, 39, 40, 41, 78, 79, 80, 81, 82, 83, 84, 85, 86, 87, 88, 89, 90, 91, 92, 93] (by decide +kernel) (by decide +kernel)
set_option maxRecDepth 20000 in
theorem gL_tell_X0_grants : GoodIn wsL_tell (wsV RL 89 RX0 yX0_grants wsX0_grants) := goodIn_app (goodIn_of _ (by decide +kernel)) ggL_tell_X0_grants
set_option maxRecDepth 20000 in
theorem ggL_tell_X0_role : GoodIn wsL_tell wsX0_role := goodIn_ca (goodIn_r _ [77, 7, 8, 50, 51, 78, 79, 80, 81, 82, 83, 84, 85, 86, 87, 88, 89, 90, 91, 92, 93] (by decide +kernel) (by decide +kernel)) (goodIn_sub (fun _ h => List.mem_cons_of_mem _ (List.mem_append_right _ h)) (by decide +kernel))
set_option maxRecDepth 20000 in
theorem gL_tell_X0_role : GoodIn wsL_tell (wsV RL 62 RX0 yX0_role wsX0_role) := goodIn_app (goodIn_of _ (by decide +kernel)) ggL_tell_X0_role
theorem dL_tell_0 : decode cL_tell 0 = .ok (.bipush 40, 2) := by decide +kernel
theorem dL_tell_2 : decode cL_tell 2 = .ok (.newarray .int, 2) := by decide +kernel
theorem dL_tell_4 : decode cL_tell 4 = .ok (.astore_n 1, 1) := by decide +kernel
theorem dL_tell_5 : decode cL_tell 5 = .ok (.iconst 0, 1) := by decide +kernel
theorem dL_tell_6 : decode cL_tell 6 = .ok (.istore_n 2, 1) := by decide +kernel
theorem dL_tell_7 : decode cL_tell 7 = .ok (.iload_n 2, 1) := by decide +kernel
theorem dL_tell_8 : decode cL_tell 8 = .ok (.bipush 8, 2) := by decide +kernel
theorem dL_tell_10 : decode cL_tell 10 = .ok (.if_icmp .ge 50, 3) := by decide +kernel
theorem dL_tell_13 : decode cL_tell 13 = .ok (.aload_n 1, 1) := by decide +kernel
theorem dL_tell_14 : decode cL_tell 14 = .ok (.iload_n 2, 1) := by decide +kernel
theorem dL_tell_15 : decode cL_tell 15 = .ok (.aload_n 0, 1) := by decide +kernel
theorem dL_tell_16 : decode cL_tell 16 = .ok (.iload_n 2, 1) := by decide +kernel
theorem dL_tell_17 : decode cL_tell 17 = .ok (.invokevirtual 68, 3) := by decide +kernel
theorem dL_tell_20 : decode cL_tell 20 = .ok (.iastore, 1) := by decide +kernel
theorem dL_tell_21 : decode cL_tell 21 = .ok (.aload_n 1, 1) := by decide +kernel
theorem dL_tell_22 : decode cL_tell 22 = .ok (.bipush 8, 2) := by decide +kernel
theorem dL_tell_24 : decode cL_tell 24 = .ok (.iload_n 2, 1) := by decide +kernel
theorem dL_tell_25 : decode cL_tell 25 = .ok (.iadd, 1) := by decide +kernel
theorem dL_tell_26 : decode cL_tell 26 = .ok (.aload_n 0, 1) := by decide +kernel
theorem dL_tell_27 : decode cL_tell 27 = .ok (.iload_n 2, 1) := by decide +kernel
theorem dL_tell_28 : decode cL_tell 28 = .ok (.invokevirtual 71, 3) := by decide +kernel
theorem dL_tell_31 : decode cL_tell 31 = .ok (.iastore, 1) := by decide +kernel
theorem dL_tell_32 : decode cL_tell 32 = .ok (.aload_n 1, 1) := by decide +kernel
theorem dL_tell_33 : decode cL_tell 33 = .ok (.bipush 16, 2) := by decide +kernel
theorem dL_tell_35 : decode cL_tell 35 = .ok (.iload_n 2, 1) := by decide +kernel
theorem dL_tell_36 : decode cL_tell 36 = .ok (.iadd, 1) := by decide +kernel
theorem dL_tell_37 : decode cL_tell 37 = .ok (.aload_n 0, 1) := by decide +kernel
theorem dL_tell_38 : decode cL_tell 38 = .ok (.iload_n 2, 1) := by decide +kernel
theorem dL_tell_39 : decode cL_tell 39 = .ok (.invokevirtual 74, 3) := by decide +kernel
theorem dL_tell_42 : decode cL_tell 42 = .ok (.iastore, 1) := by decide +kernel
theorem dL_tell_43 : decode cL_tell 43 = .ok (.aload_n 1, 1) := by decide +kernel
theorem dL_tell_44 : decode cL_tell 44 = .ok (.bipush 24, 2) := by decide +kernel
theorem dL_tell_46 : decode cL_tell 46 = .ok (.iload_n 2, 1) := by decide +kernel
theorem dL_tell_47 : decode cL_tell 47 = .ok (.iadd, 1) := by decide +kernel
theorem dL_tell_48 : decode cL_tell 48 = .ok (.aload_n 0, 1) := by decide +kernel
theorem dL_tell_49 : decode cL_tell 49 = .ok (.iload_n 2, 1) := by decide +kernel
theorem dL_tell_50 : decode cL_tell 50 = .ok (.invokevirtual 77, 3) := by decide +kernel
theorem dL_tell_53 : decode cL_tell 53 = .ok (.iastore, 1) := by decide +kernel
theorem dL_tell_54 : decode cL_tell 54 = .ok (.iinc 2 1, 3) := by decide +kernel
theorem dL_tell_57 : decode cL_tell 57 = .ok (.goto (-50), 3) := by decide +kernel
theorem dL_tell_60 : decode cL_tell 60 = .ok (.aload_n 1, 1) := by decide +kernel
theorem dL_tell_61 : decode cL_tell 61 = .ok (.bipush 32, 2) := by decide +kernel
theorem dL_tell_63 : decode cL_tell 63 = .ok (.aload_n 0, 1) := by decide +kernel
theorem dL_tell_64 : decode cL_tell 64 = .ok (.invokevirtual 80, 3) := by decide +kernel
theorem dL_tell_67 : decode cL_tell 67 = .ok (.iastore, 1) := by decide +kernel
theorem dL_tell_68 : decode cL_tell 68 = .ok (.aload_n 1, 1) := by decide +kernel
theorem dL_tell_69 : decode cL_tell 69 = .ok (.bipush 33, 2) := by decide +kernel
theorem dL_tell_71 : decode cL_tell 71 = .ok (.aload_n 0, 1) := by decide +kernel
theorem dL_tell_72 : decode cL_tell 72 = .ok (.invokevirtual 83, 3) := by decide +kernel
theorem dL_tell_75 : decode cL_tell 75 = .ok (.iastore, 1) := by decide +kernel
theorem dL_tell_76 : decode cL_tell 76 = .ok (.aload_n 1, 1) := by decide +kernel
theorem dL_tell_77 : decode cL_tell 77 = .ok (.bipush 34, 2) := by decide +kernel
theorem dL_tell_79 : decode cL_tell 79 = .ok (.aload_n 0, 1) := by decide +kernel
theorem dL_tell_80 : decode cL_tell 80 = .ok (.invokevirtual 86, 3) := by decide +kernel
theorem dL_tell_83 : decode cL_tell 83 = .ok (.iastore, 1) := by decide +kernel
theorem dL_tell_84 : decode cL_tell 84 = .ok (.aload_n 1, 1) := by decide +kernel
theorem dL_tell_85 : decode cL_tell 85 = .ok (.bipush 35, 2) := by decide +kernel
theorem dL_tell_87 : decode cL_tell 87 = .ok (.aload_n 0, 1) := by decide +kernel
theorem dL_tell_88 : decode cL_tell 88 = .ok (.invokevirtual 89, 3) := by decide +kernel
theorem dL_tell_91 : decode cL_tell 91 = .ok (.iastore, 1) := by decide +kernel
theorem dL_tell_92 : decode cL_tell 92 = .ok (.iconst 0, 1) := by decide +kernel
theorem dL_tell_93 : decode cL_tell 93 = .ok (.istore_n 2, 1) := by decide +kernel
theorem dL_tell_94 : decode cL_tell 94 = .ok (.iload_n 2, 1) := by decide +kernel
theorem dL_tell_95 : decode cL_tell 95 = .ok (.aload_n 1, 1) := by decide +kernel
theorem dL_tell_96 : decode cL_tell 96 = .ok (.bipush 33, 2) := by decide +kernel
theorem dL_tell_98 : decode cL_tell 98 = .ok (.iaload, 1) := by decide +kernel
theorem dL_tell_99 : decode cL_tell 99 = .ok (.if_icmp .ge 26, 3) := by decide +kernel
theorem dL_tell_102 : decode cL_tell 102 = .ok (.aload_n 1, 1) := by decide +kernel
theorem dL_tell_103 : decode cL_tell 103 = .ok (.bipush 36, 2) := by decide +kernel
theorem dL_tell_105 : decode cL_tell 105 = .ok (.bipush 31, 2) := by decide +kernel
theorem dL_tell_107 : decode cL_tell 107 = .ok (.aload_n 1, 1) := by decide +kernel
theorem dL_tell_108 : decode cL_tell 108 = .ok (.bipush 36, 2) := by decide +kernel
theorem dL_tell_110 : decode cL_tell 110 = .ok (.iaload, 1) := by decide +kernel
theorem dL_tell_111 : decode cL_tell 111 = .ok (.imul, 1) := by decide +kernel
theorem dL_tell_112 : decode cL_tell 112 = .ok (.aload_n 0, 1) := by decide +kernel
theorem dL_tell_113 : decode cL_tell 113 = .ok (.iload_n 2, 1) := by decide +kernel
theorem dL_tell_114 : decode cL_tell 114 = .ok (.invokevirtual 62, 3) := by decide +kernel
theorem dL_tell_117 : decode cL_tell 117 = .ok (.iadd, 1) := by decide +kernel
theorem dL_tell_118 : decode cL_tell 118 = .ok (.iastore, 1) := by decide +kernel
theorem dL_tell_119 : decode cL_tell 119 = .ok (.iinc 2 1, 3) := by decide +kernel
theorem dL_tell_122 : decode cL_tell 122 = .ok (.goto (-28), 3) := by decide +kernel
theorem dL_tell_125 : decode cL_tell 125 = .ok (.aload_n 1, 1) := by decide +kernel
theorem dL_tell_126 : decode cL_tell 126 = .ok (.areturn, 1) := by decide +kernel
theorem dL_same_0 : decode cL_same 0 = .ok (.iconst 0, 1) := by decide +kernel
theorem dL_same_1 : decode cL_same 1 = .ok (.istore_n 2, 1) := by decide +kernel
theorem dL_same_2 : decode cL_same 2 = .ok (.iload_n 2, 1) := by decide +kernel
theorem dL_same_3 : decode cL_same 3 = .ok (.bipush 40, 2) := by decide +kernel
theorem dL_same_5 : decode cL_same 5 = .ok (.if_icmp .ge 20, 3) := by decide +kernel
theorem dL_same_8 : decode cL_same 8 = .ok (.aload_n 0, 1) := by decide +kernel
theorem dL_same_9 : decode cL_same 9 = .ok (.iload_n 2, 1) := by decide +kernel
theorem dL_same_10 : decode cL_same 10 = .ok (.iaload, 1) := by decide +kernel
theorem dL_same_11 : decode cL_same 11 = .ok (.aload_n 1, 1) := by decide +kernel
theorem dL_same_12 : decode cL_same 12 = .ok (.iload_n 2, 1) := by decide +kernel
theorem dL_same_13 : decode cL_same 13 = .ok (.iaload, 1) := by decide +kernel
theorem dL_same_14 : decode cL_same 14 = .ok (.if_icmp .eq 5, 3) := by decide +kernel
theorem dL_same_17 : decode cL_same 17 = .ok (.iconst 0, 1) := by decide +kernel
theorem dL_same_18 : decode cL_same 18 = .ok (.ireturn, 1) := by decide +kernel
theorem dL_same_19 : decode cL_same 19 = .ok (.iinc 2 1, 3) := by decide +kernel
theorem dL_same_22 : decode cL_same 22 = .ok (.goto (-20), 3) := by decide +kernel
theorem dL_same_25 : decode cL_same 25 = .ok (.iconst 1, 1) := by decide +kernel
theorem dL_same_26 : decode cL_same 26 = .ok (.ireturn, 1) := by decide +kernel
set_option maxRecDepth 20000 in
theorem ggL_shared_X0_permissions : GoodIn wsL_shared wsX0_permissions := goodIn_ca (goodIn_r _ [5, 6, 7, 8, 9, 10, 4, 11, 12, 13, 14, 15, 16, 17, 18, 19, 20, 21, 22, 23, 24, 25, 26, 27] (by decide +kernel) (by decide +kernel)) (goodIn_sub (fun _ h => List.mem_cons_of_mem _ (List.mem_append_right _ h)) (by decide +kernel))
set_option maxRecDepth 20000 in
theorem gL_shared_X0_permissions : GoodIn wsL_shared (wsV RL 68 RX0 yX0_permissions wsX0_permissions) := goodIn_app (goodIn_of _ (by decide +kernel)) ggL_shared_X0_permissions
theorem dL_shared_0 : decode cL_shared 0 = .ok (.sipush 4095, 3) := by decide +kernel
theorem dL_shared_3 : decode cL_shared 3 = .ok (.istore_n 2, 1) := by decide +kernel
theorem dL_shared_4 : decode cL_shared 4 = .ok (.iconst 0, 1) := by decide +kernel
theorem dL_shared_5 : decode cL_shared 5 = .ok (.istore_n 3, 1) := by decide +kernel
theorem dL_shared_6 : decode cL_shared 6 = .ok (.iload_n 3, 1) := by decide +kernel
theorem dL_shared_7 : decode cL_shared 7 = .ok (.bipush 8, 2) := by decide +kernel
theorem dL_shared_9 : decode cL_shared 9 = .ok (.if_icmp .ge 32, 3) := by decide +kernel
theorem dL_shared_12 : decode cL_shared 12 = .ok (.iload_n 2, 1) := by decide +kernel
theorem dL_shared_13 : decode cL_shared 13 = .ok (.iload_n 1, 1) := by decide +kernel
theorem dL_shared_14 : decode cL_shared 14 = .ok (.iload_n 3, 1) := by decide +kernel
theorem dL_shared_15 : decode cL_shared 15 = .ok (.ishr, 1) := by decide +kernel
theorem dL_shared_16 : decode cL_shared 16 = .ok (.iconst 1, 1) := by decide +kernel
theorem dL_shared_17 : decode cL_shared 17 = .ok (.iand, 1) := by decide +kernel
theorem dL_shared_18 : decode cL_shared 18 = .ok (.iconst 1, 1) := by decide +kernel
theorem dL_shared_19 : decode cL_shared 19 = .ok (.if_icmp .ne 11, 3) := by decide +kernel
theorem dL_shared_22 : decode cL_shared 22 = .ok (.aload_n 0, 1) := by decide +kernel
theorem dL_shared_23 : decode cL_shared 23 = .ok (.iload_n 3, 1) := by decide +kernel
theorem dL_shared_24 : decode cL_shared 24 = .ok (.invokevirtual 68, 3) := by decide +kernel
theorem dL_shared_27 : decode cL_shared 27 = .ok (.goto 6, 3) := by decide +kernel
theorem dL_shared_30 : decode cL_shared 30 = .ok (.sipush 4095, 3) := by decide +kernel
theorem dL_shared_33 : decode cL_shared 33 = .ok (.iand, 1) := by decide +kernel
theorem dL_shared_34 : decode cL_shared 34 = .ok (.istore_n 2, 1) := by decide +kernel
theorem dL_shared_35 : decode cL_shared 35 = .ok (.iinc 3 1, 3) := by decide +kernel
theorem dL_shared_38 : decode cL_shared 38 = .ok (.goto (-32), 3) := by decide +kernel
theorem dL_shared_41 : decode cL_shared 41 = .ok (.iload_n 2, 1) := by decide +kernel
theorem dL_shared_42 : decode cL_shared 42 = .ok (.ireturn, 1) := by decide +kernel
set_option maxRecDepth 20000 in
theorem ggL_candidates_X0_candidates : GoodIn wsL_candidates wsX0_candidates := goodIn_r _ [5, 6, 7, 8, 9, 4, 10, 11, 12, 13, 14, 15, 16, 17, 18, 19, 20, 21, 22, 23, 24, 25, 26, 27, 28, 29, 30, 31, 32, 33, 34, 35, 36, 37, 38, 39, 40, 41, 42, 43, 44, 45, 46, 47, 48, 49, 50, 51, 52, 53, 54, 55, 56, 57, 58, 59, 60, 61, 99, 100, 101, 102, 103, 104, 105, 106, 107, 108, 109, 110, 111, 112, 113, 114] (by decide +kernel) (by decide +kernel)
set_option maxRecDepth 20000 in
theorem gL_candidates_X0_candidates : GoodIn wsL_candidates (wsV RL 92 RX0 yX0_candidates wsX0_candidates) := goodIn_app (goodIn_of _ (by decide +kernel)) ggL_candidates_X0_candidates
set_option maxRecDepth 20000 in
theorem ggL_candidates_L_candidate : GoodIn wsL_candidates wsL_candidate := goodIn_ca (goodIn_r _ [65, 66, 67, 68, 69, 4, 70, 71, 72, 6, 12, 7, 8, 9, 10, 11, 13, 14, 15, 16, 17, 18, 19, 20, 21, 22, 23, 24, 25, 26, 27, 28, 29, 30, 31, 32, 33, 34, 35, 36, 37, 38, 39, 40, 41, 42, 43, 44, 45, 46, 47, 48, 49, 50, 51, 52, 53, 54, 55, 56, 57, 58, 59, 60, 61, 99, 100, 101, 102, 103, 104, 105, 106, 107, 108, 109, 110, 111, 112, 113, 114] (by decide +kernel) (by decide +kernel)) (goodIn_sub (fun _ h => List.mem_cons_of_mem _ (List.mem_append_left _ (List.mem_append_right _ h))) (by decide +kernel))
set_option maxRecDepth 20000 in
theorem gL_candidates_L_candidate : GoodIn wsL_candidates (va_wsS RL 95 yL_candidate wsL_candidate) := goodIn_app (goodIn_of _ (by decide +kernel)) ggL_candidates_L_candidate
set_option maxRecDepth 20000 in
theorem ggL_candidates_L_holders : GoodIn wsL_candidates wsL_holders := goodIn_ca (goodIn_r _ [75, 76, 77, 78, 79, 4, 80, 81, 82, 83, 84, 85, 21, 22, 23, 24, 25, 26, 27, 28, 17, 99, 100, 101, 102, 103, 104, 105, 106, 107, 108, 109, 110, 111, 112, 113, 114] (by decide +kernel) (by decide +kernel)) (goodIn_sub (fun _ h => List.mem_cons_of_mem _ (List.mem_append_right _ h)) (by decide +kernel))
set_option maxRecDepth 20000 in
theorem gL_candidates_L_holders : GoodIn wsL_candidates (va_wsS RL 100 yL_holders wsL_holders) := goodIn_app (goodIn_of _ (by decide +kernel)) ggL_candidates_L_holders
set_option maxRecDepth 20000 in
theorem ggL_candidates_L_shared : GoodIn wsL_candidates wsL_shared := goodIn_ca (goodIn_r _ [88, 89, 90, 91, 4, 92, 71, 72, 17, 93, 94, 95, 99, 100, 101, 102, 103, 104, 105, 106, 107, 108, 109, 110, 111, 112, 113, 114] (by decide +kernel) (by decide +kernel)) (goodIn_sub (fun _ h => List.mem_cons_of_mem _ (List.mem_append_left _ (List.mem_append_right _ h))) (by decide +kernel))
set_option maxRecDepth 20000 in
theorem gL_candidates_L_shared : GoodIn wsL_candidates (va_wsS RL 102 yL_shared wsL_shared) := goodIn_app (goodIn_of _ (by decide +kernel)) ggL_candidates_L_shared
set_option maxRecDepth 20000 in
theorem ggL_candidates_L_size : GoodIn wsL_candidates wsL_size := goodIn_r _ [98] (by decide +kernel) (by decide +kernel)
set_option maxRecDepth 20000 in
theorem gL_candidates_L_size : GoodIn wsL_candidates (va_wsS RL 105 yL_size wsL_size) := goodIn_app (goodIn_of _ (by decide +kernel)) ggL_candidates_L_size
theorem dL_candidates_0 : decode cL_candidates 0 = .ok (.aload_n 0, 1) := by decide +kernel
theorem dL_candidates_1 : decode cL_candidates 1 = .ok (.invokevirtual 92, 3) := by decide +kernel
theorem dL_candidates_4 : decode cL_candidates 4 = .ok (.istore_n 3, 1) := by decide +kernel
theorem dL_candidates_5 : decode cL_candidates 5 = .ok (.iconst 0, 1) := by decide +kernel
theorem dL_candidates_6 : decode cL_candidates 6 = .ok (.istore 4, 2) := by decide +kernel
theorem dL_candidates_8 : decode cL_candidates 8 = .ok (.iconst 0, 1) := by decide +kernel
theorem dL_candidates_9 : decode cL_candidates 9 = .ok (.istore 5, 2) := by decide +kernel
theorem dL_candidates_11 : decode cL_candidates 11 = .ok (.iload 5, 2) := by decide +kernel
theorem dL_candidates_13 : decode cL_candidates 13 = .ok (.iload_n 3, 1) := by decide +kernel
theorem dL_candidates_14 : decode cL_candidates 14 = .ok (.if_icmp .ge 105, 3) := by decide +kernel
theorem dL_candidates_17 : decode cL_candidates 17 = .ok (.aload_n 0, 1) := by decide +kernel
theorem dL_candidates_18 : decode cL_candidates 18 = .ok (.iload 5, 2) := by decide +kernel
theorem dL_candidates_20 : decode cL_candidates 20 = .ok (.invokestatic 95, 3) := by decide +kernel
theorem dL_candidates_23 : decode cL_candidates 23 = .ok (.istore 6, 2) := by decide +kernel
theorem dL_candidates_25 : decode cL_candidates 25 = .ok (.aload_n 0, 1) := by decide +kernel
theorem dL_candidates_26 : decode cL_candidates 26 = .ok (.iload 6, 2) := by decide +kernel
theorem dL_candidates_28 : decode cL_candidates 28 = .ok (.invokestatic 100, 3) := by decide +kernel
theorem dL_candidates_31 : decode cL_candidates 31 = .ok (.istore 7, 2) := by decide +kernel
theorem dL_candidates_33 : decode cL_candidates 33 = .ok (.iload 6, 2) := by decide +kernel
theorem dL_candidates_35 : decode cL_candidates 35 = .ok (.iload 4, 2) := by decide +kernel
theorem dL_candidates_37 : decode cL_candidates 37 = .ok (.if_icmp .le 31, 3) := by decide +kernel
theorem dL_candidates_40 : decode cL_candidates 40 = .ok (.iload 6, 2) := by decide +kernel
theorem dL_candidates_42 : decode cL_candidates 42 = .ok (.sipush 4095, 3) := by decide +kernel
theorem dL_candidates_45 : decode cL_candidates 45 = .ok (.if_icmp .gt 23, 3) := by decide +kernel
theorem dL_candidates_48 : decode cL_candidates 48 = .ok (.aload_n 0, 1) := by decide +kernel
theorem dL_candidates_49 : decode cL_candidates 49 = .ok (.iload 7, 2) := by decide +kernel
theorem dL_candidates_51 : decode cL_candidates 51 = .ok (.invokestatic 102, 3) := by decide +kernel
theorem dL_candidates_54 : decode cL_candidates 54 = .ok (.iload 6, 2) := by decide +kernel
theorem dL_candidates_56 : decode cL_candidates 56 = .ok (.if_icmp .ne 12, 3) := by decide +kernel
theorem dL_candidates_59 : decode cL_candidates 59 = .ok (.iload 7, 2) := by decide +kernel
theorem dL_candidates_61 : decode cL_candidates 61 = .ok (.invokestatic 105, 3) := by decide +kernel
theorem dL_candidates_64 : decode cL_candidates 64 = .ok (.iload_n 2, 1) := by decide +kernel
theorem dL_candidates_65 : decode cL_candidates 65 = .ok (.if_icmp .ge 5, 3) := by decide +kernel
theorem dL_candidates_68 : decode cL_candidates 68 = .ok (.iconst 0, 1) := by decide +kernel
theorem dL_candidates_69 : decode cL_candidates 69 = .ok (.ireturn, 1) := by decide +kernel
theorem dL_candidates_70 : decode cL_candidates 70 = .ok (.iconst 0, 1) := by decide +kernel
theorem dL_candidates_71 : decode cL_candidates 71 = .ok (.istore 8, 2) := by decide +kernel
theorem dL_candidates_73 : decode cL_candidates 73 = .ok (.iload 8, 2) := by decide +kernel
theorem dL_candidates_75 : decode cL_candidates 75 = .ok (.bipush 12, 2) := by decide +kernel
theorem dL_candidates_77 : decode cL_candidates 77 = .ok (.if_icmp .ge 32, 3) := by decide +kernel
theorem dL_candidates_80 : decode cL_candidates 80 = .ok (.iload 6, 2) := by decide +kernel
theorem dL_candidates_82 : decode cL_candidates 82 = .ok (.iload 8, 2) := by decide +kernel
theorem dL_candidates_84 : decode cL_candidates 84 = .ok (.ishr, 1) := by decide +kernel
theorem dL_candidates_85 : decode cL_candidates 85 = .ok (.iconst 1, 1) := by decide +kernel
theorem dL_candidates_86 : decode cL_candidates 86 = .ok (.iand, 1) := by decide +kernel
theorem dL_candidates_87 : decode cL_candidates 87 = .ok (.iconst 1, 1) := by decide +kernel
theorem dL_candidates_88 : decode cL_candidates 88 = .ok (.if_icmp .ne 15, 3) := by decide +kernel
theorem dL_candidates_91 : decode cL_candidates 91 = .ok (.iload 6, 2) := by decide +kernel
theorem dL_candidates_93 : decode cL_candidates 93 = .ok (.aload_n 1, 1) := by decide +kernel
theorem dL_candidates_94 : decode cL_candidates 94 = .ok (.iload 8, 2) := by decide +kernel
theorem dL_candidates_96 : decode cL_candidates 96 = .ok (.iaload, 1) := by decide +kernel
theorem dL_candidates_97 : decode cL_candidates 97 = .ok (.iand, 1) := by decide +kernel
theorem dL_candidates_98 : decode cL_candidates 98 = .ok (.ifCond .eq 5, 3) := by decide +kernel
theorem dL_candidates_101 : decode cL_candidates 101 = .ok (.iconst 0, 1) := by decide +kernel
theorem dL_candidates_102 : decode cL_candidates 102 = .ok (.ireturn, 1) := by decide +kernel
theorem dL_candidates_103 : decode cL_candidates 103 = .ok (.iinc 8 1, 3) := by decide +kernel
theorem dL_candidates_106 : decode cL_candidates 106 = .ok (.goto (-33), 3) := by decide +kernel
theorem dL_candidates_109 : decode cL_candidates 109 = .ok (.iload 6, 2) := by decide +kernel
theorem dL_candidates_111 : decode cL_candidates 111 = .ok (.istore 4, 2) := by decide +kernel
theorem dL_candidates_113 : decode cL_candidates 113 = .ok (.iinc 5 1, 3) := by decide +kernel
theorem dL_candidates_116 : decode cL_candidates 116 = .ok (.goto (-105), 3) := by decide +kernel
theorem dL_candidates_119 : decode cL_candidates 119 = .ok (.iconst 0, 1) := by decide +kernel
theorem dL_candidates_120 : decode cL_candidates 120 = .ok (.istore 5, 2) := by decide +kernel
theorem dL_candidates_122 : decode cL_candidates 122 = .ok (.iconst 1, 1) := by decide +kernel
theorem dL_candidates_123 : decode cL_candidates 123 = .ok (.istore 6, 2) := by decide +kernel
theorem dL_candidates_125 : decode cL_candidates 125 = .ok (.iload 6, 2) := by decide +kernel
theorem dL_candidates_127 : decode cL_candidates 127 = .ok (.sipush 4096, 3) := by decide +kernel
theorem dL_candidates_130 : decode cL_candidates 130 = .ok (.if_icmp .ge 107, 3) := by decide +kernel
theorem dL_candidates_133 : decode cL_candidates 133 = .ok (.aload_n 0, 1) := by decide +kernel
theorem dL_candidates_134 : decode cL_candidates 134 = .ok (.iload 6, 2) := by decide +kernel
theorem dL_candidates_136 : decode cL_candidates 136 = .ok (.invokestatic 100, 3) := by decide +kernel
theorem dL_candidates_139 : decode cL_candidates 139 = .ok (.istore 7, 2) := by decide +kernel
theorem dL_candidates_141 : decode cL_candidates 141 = .ok (.iload 7, 2) := by decide +kernel
theorem dL_candidates_143 : decode cL_candidates 143 = .ok (.invokestatic 105, 3) := by decide +kernel
theorem dL_candidates_146 : decode cL_candidates 146 = .ok (.iload_n 2, 1) := by decide +kernel
theorem dL_candidates_147 : decode cL_candidates 147 = .ok (.if_icmp .lt 18, 3) := by decide +kernel
theorem dL_candidates_150 : decode cL_candidates 150 = .ok (.aload_n 0, 1) := by decide +kernel
theorem dL_candidates_151 : decode cL_candidates 151 = .ok (.iload 7, 2) := by decide +kernel
theorem dL_candidates_153 : decode cL_candidates 153 = .ok (.invokestatic 102, 3) := by decide +kernel
theorem dL_candidates_156 : decode cL_candidates 156 = .ok (.iload 6, 2) := by decide +kernel
theorem dL_candidates_158 : decode cL_candidates 158 = .ok (.if_icmp .ne 7, 3) := by decide +kernel
theorem dL_candidates_161 : decode cL_candidates 161 = .ok (.iconst 1, 1) := by decide +kernel
theorem dL_candidates_162 : decode cL_candidates 162 = .ok (.goto 4, 3) := by decide +kernel
theorem dL_candidates_165 : decode cL_candidates 165 = .ok (.iconst 0, 1) := by decide +kernel
theorem dL_candidates_166 : decode cL_candidates 166 = .ok (.istore 8, 2) := by decide +kernel
theorem dL_candidates_168 : decode cL_candidates 168 = .ok (.iconst 0, 1) := by decide +kernel
theorem dL_candidates_169 : decode cL_candidates 169 = .ok (.istore 9, 2) := by decide +kernel
theorem dL_candidates_171 : decode cL_candidates 171 = .ok (.iload 9, 2) := by decide +kernel
theorem dL_candidates_173 : decode cL_candidates 173 = .ok (.bipush 12, 2) := by decide +kernel
theorem dL_candidates_175 : decode cL_candidates 175 = .ok (.if_icmp .ge 41, 3) := by decide +kernel
theorem dL_candidates_178 : decode cL_candidates 178 = .ok (.iload 8, 2) := by decide +kernel
theorem dL_candidates_180 : decode cL_candidates 180 = .ok (.ifCond .eq 36, 3) := by decide +kernel
theorem dL_candidates_183 : decode cL_candidates 183 = .ok (.iload 6, 2) := by decide +kernel
theorem dL_candidates_185 : decode cL_candidates 185 = .ok (.iload 9, 2) := by decide +kernel
theorem dL_candidates_187 : decode cL_candidates 187 = .ok (.ishr, 1) := by decide +kernel
theorem dL_candidates_188 : decode cL_candidates 188 = .ok (.iconst 1, 1) := by decide +kernel
theorem dL_candidates_189 : decode cL_candidates 189 = .ok (.iand, 1) := by decide +kernel
theorem dL_candidates_190 : decode cL_candidates 190 = .ok (.ifCond .eq 13, 3) := by decide +kernel
theorem dL_candidates_193 : decode cL_candidates 193 = .ok (.iload 6, 2) := by decide +kernel
theorem dL_candidates_195 : decode cL_candidates 195 = .ok (.aload_n 1, 1) := by decide +kernel
theorem dL_candidates_196 : decode cL_candidates 196 = .ok (.iload 9, 2) := by decide +kernel
theorem dL_candidates_198 : decode cL_candidates 198 = .ok (.iaload, 1) := by decide +kernel
theorem dL_candidates_199 : decode cL_candidates 199 = .ok (.iand, 1) := by decide +kernel
theorem dL_candidates_200 : decode cL_candidates 200 = .ok (.ifCond .ne 7, 3) := by decide +kernel
theorem dL_candidates_203 : decode cL_candidates 203 = .ok (.iconst 1, 1) := by decide +kernel
theorem dL_candidates_204 : decode cL_candidates 204 = .ok (.goto 4, 3) := by decide +kernel
theorem dL_candidates_207 : decode cL_candidates 207 = .ok (.iconst 0, 1) := by decide +kernel
theorem dL_candidates_208 : decode cL_candidates 208 = .ok (.istore 8, 2) := by decide +kernel
theorem dL_candidates_210 : decode cL_candidates 210 = .ok (.iinc 9 1, 3) := by decide +kernel
theorem dL_candidates_213 : decode cL_candidates 213 = .ok (.goto (-42), 3) := by decide +kernel
theorem dL_candidates_216 : decode cL_candidates 216 = .ok (.iload 5, 2) := by decide +kernel
theorem dL_candidates_218 : decode cL_candidates 218 = .ok (.iload 8, 2) := by decide +kernel
theorem dL_candidates_220 : decode cL_candidates 220 = .ok (.ifCond .eq 7, 3) := by decide +kernel
theorem dL_candidates_223 : decode cL_candidates 223 = .ok (.iconst 1, 1) := by decide +kernel
theorem dL_candidates_224 : decode cL_candidates 224 = .ok (.goto 4, 3) := by decide +kernel
theorem dL_candidates_227 : decode cL_candidates 227 = .ok (.iconst 0, 1) := by decide +kernel
theorem dL_candidates_228 : decode cL_candidates 228 = .ok (.iadd, 1) := by decide +kernel
theorem dL_candidates_229 : decode cL_candidates 229 = .ok (.istore 5, 2) := by decide +kernel
theorem dL_candidates_231 : decode cL_candidates 231 = .ok (.iinc 6 1, 3) := by decide +kernel
theorem dL_candidates_234 : decode cL_candidates 234 = .ok (.goto (-109), 3) := by decide +kernel
theorem dL_candidates_237 : decode cL_candidates 237 = .ok (.iload 5, 2) := by decide +kernel
theorem dL_candidates_239 : decode cL_candidates 239 = .ok (.iload_n 3, 1) := by decide +kernel
theorem dL_candidates_240 : decode cL_candidates 240 = .ok (.if_icmp .ne 27, 3) := by decide +kernel
theorem dL_candidates_243 : decode cL_candidates 243 = .ok (.aload_n 0, 1) := by decide +kernel
theorem dL_candidates_244 : decode cL_candidates 244 = .ok (.iload_n 3, 1) := by decide +kernel
theorem dL_candidates_245 : decode cL_candidates 245 = .ok (.invokestatic 95, 3) := by decide +kernel
theorem dL_candidates_248 : decode cL_candidates 248 = .ok (.bipush (-2), 2) := by decide +kernel
theorem dL_candidates_250 : decode cL_candidates 250 = .ok (.if_icmp .ne 17, 3) := by decide +kernel
theorem dL_candidates_253 : decode cL_candidates 253 = .ok (.aload_n 0, 1) := by decide +kernel
theorem dL_candidates_254 : decode cL_candidates 254 = .ok (.iconst (-1), 1) := by decide +kernel
theorem dL_candidates_255 : decode cL_candidates 255 = .ok (.invokestatic 95, 3) := by decide +kernel
theorem dL_candidates_258 : decode cL_candidates 258 = .ok (.bipush (-2), 2) := by decide +kernel
theorem dL_candidates_260 : decode cL_candidates 260 = .ok (.if_icmp .ne 7, 3) := by decide +kernel
theorem dL_candidates_263 : decode cL_candidates 263 = .ok (.iconst 1, 1) := by decide +kernel
theorem dL_candidates_264 : decode cL_candidates 264 = .ok (.goto 4, 3) := by decide +kernel
theorem dL_candidates_267 : decode cL_candidates 267 = .ok (.iconst 0, 1) := by decide +kernel
theorem dL_candidates_268 : decode cL_candidates 268 = .ok (.ireturn, 1) := by decide +kernel
set_option maxRecDepth 20000 in
theorem ggL_users_X0_roles : GoodIn wsL_users wsX0_roles := goodIn_r _ [5, 6, 89, 90, 91, 92, 93, 94, 95, 96, 97, 98, 99, 100, 101, 102, 103, 104] (by decide +kernel) (by decide +kernel)
set_option maxRecDepth 20000 in
theorem gL_users_X0_roles : GoodIn wsL_users (wsV RL 83 RX0 yX0_roles wsX0_roles) := goodIn_app (goodIn_of _ (by decide +kernel)) ggL_users_X0_roles
set_option maxRecDepth 20000 in
theorem ggL_users_X0_permissions : GoodIn wsL_users wsX0_permissions := goodIn_ca (goodIn_r _ [10, 11, 12, 13, 14, 15, 4, 16, 89, 90, 91, 92, 93, 94, 95, 96, 97, 98, 99, 100, 101, 102, 103, 104] (by decide +kernel) (by decide +kernel)) (goodIn_sub (fun _ h => List.mem_cons_of_mem _ (List.mem_append_right _ h)) (by decide +kernel))
set_option maxRecDepth 20000 in
theorem gL_users_X0_permissions : GoodIn wsL_users (wsV RL 68 RX0 yX0_permissions wsX0_permissions) := goodIn_app (goodIn_of _ (by decide +kernel)) ggL_users_X0_permissions
set_option maxRecDepth 20000 in
theorem ggL_users_L_role : GoodIn wsL_users wsL_role := goodIn_ca (goodIn_r _ [20, 21, 22, 23, 24, 4, 25, 11, 12, 6, 26, 89, 90, 91, 92, 93, 94, 95, 96, 97, 98, 99, 100, 101, 102, 103, 104] (by decide +kernel) (by decide +kernel)) (goodIn_sub (fun _ h => List.mem_cons_of_mem _ (List.mem_append_right _ h)) (by decide +kernel))
set_option maxRecDepth 20000 in
theorem gL_users_L_role : GoodIn wsL_users (va_wsS RL 108 yL_role wsL_role) := goodIn_app (goodIn_of _ (by decide +kernel)) ggL_users_L_role
set_option maxRecDepth 20000 in
theorem ggL_users_L_size : GoodIn wsL_users wsL_size := goodIn_r _ [29] (by decide +kernel) (by decide +kernel)
set_option maxRecDepth 20000 in
theorem gL_users_L_size : GoodIn wsL_users (va_wsS RL 105 yL_size wsL_size) := goodIn_app (goodIn_of _ (by decide +kernel)) ggL_users_L_size
set_option maxRecDepth 20000 in
theorem ggL_users_X0_byRoles : GoodIn wsL_users wsX0_byRoles := goodIn_ca (goodIn_r _ [33, 11, 12, 14, 15, 4, 16, 34, 35, 36, 37, 6, 26, 38, 39, 40, 41, 13, 89, 90, 91, 92, 93, 94, 95, 96, 97, 98, 99, 100, 101, 102, 103, 104] (by decide +kernel) (by decide +kernel)) (goodIn_sub (fun _ h => List.mem_cons_of_mem _ (List.mem_append_right _ h)) (by decide +kernel))
set_option maxRecDepth 20000 in
theorem gL_users_X0_byRoles : GoodIn wsL_users (wsV RL 77 RX0 yX0_byRoles wsX0_byRoles) := goodIn_app (goodIn_of _ (by decide +kernel)) ggL_users_X0_byRoles
set_option maxRecDepth 20000 in
theorem ggL_users_X0_rolesOf : GoodIn wsL_users wsX0_rolesOf := goodIn_ca (goodIn_r _ [45, 11, 12, 6, 26, 14, 15, 4, 16, 38, 39, 40, 41, 13, 89, 90, 91, 92, 93, 94, 95, 96, 97, 98, 99, 100, 101, 102, 103, 104] (by decide +kernel) (by decide +kernel)) (goodIn_sub (fun _ h => List.mem_cons_of_mem _ (List.mem_append_right _ h)) (by decide +kernel))
set_option maxRecDepth 20000 in
theorem gL_users_X0_rolesOf : GoodIn wsL_users (wsV RL 110 RX0 yX0_rolesOf wsX0_rolesOf) := goodIn_app (goodIn_of _ (by decide +kernel)) ggL_users_X0_rolesOf
set_option maxRecDepth 20000 in
theorem ggL_users_X0_exceptions : GoodIn wsL_users wsX0_exceptions := goodIn_ca (goodIn_r _ [49, 11, 12, 13, 14, 15, 4, 16, 34, 35, 36, 37, 6, 26, 38, 39, 40, 41, 89, 90, 91, 92, 93, 94, 95, 96, 97, 98, 99, 100, 101, 102, 103, 104] (by decide +kernel) (by decide +kernel)) (goodIn_sub (fun _ h => List.mem_cons_of_mem _ (List.mem_append_right _ h)) (by decide +kernel))
set_option maxRecDepth 20000 in
theorem gL_users_X0_exceptions : GoodIn wsL_users (wsV RL 113 RX0 yX0_exceptions wsX0_exceptions) := goodIn_app (goodIn_of _ (by decide +kernel)) ggL_users_X0_exceptions
set_option maxRecDepth 20000 in
theorem ggL_users_X0_due : GoodIn wsL_users wsX0_due := goodIn_ca (goodIn_r _ [53, 11, 12, 54, 14, 15, 4, 16, 55, 56, 57, 58, 59, 13, 60, 61, 62, 63, 64, 65, 66, 89, 90, 91, 92, 93, 94, 95, 96, 97, 98, 99, 100, 101, 102, 103, 104] (by decide +kernel) (by decide +kernel)) (goodIn_sub (fun _ h => List.mem_cons_of_mem _ (List.mem_append_right _ h)) (by decide +kernel))
set_option maxRecDepth 20000 in
theorem gL_users_X0_due : GoodIn wsL_users (wsV RL 71 RX0 yX0_due wsX0_due) := goodIn_app (goodIn_of _ (by decide +kernel)) ggL_users_X0_due
set_option maxRecDepth 20000 in
theorem ggL_users_X0_violations : GoodIn wsL_users wsX0_violations := goodIn_ca (goodIn_r _ [70, 11, 12, 13, 71, 14, 15, 4, 16, 64, 65, 66, 72, 73, 74, 75, 76, 77, 78, 89, 90, 91, 92, 93, 94, 95, 96, 97, 98, 99, 100, 101, 102, 103, 104] (by decide +kernel) (by decide +kernel)) (goodIn_sub (fun _ h => List.mem_cons_of_mem _ (List.mem_append_right _ h)) (by decide +kernel))
set_option maxRecDepth 20000 in
theorem gL_users_X0_violations : GoodIn wsL_users (wsV RL 74 RX0 yX0_violations wsX0_violations) := goodIn_app (goodIn_of _ (by decide +kernel)) ggL_users_X0_violations
set_option maxRecDepth 20000 in
theorem ggL_users_X0_cost : GoodIn wsL_users wsX0_cost := goodIn_r _ [82, 13, 83, 6, 84, 34, 35, 36, 4, 37, 26, 38, 39, 40, 41, 72, 73, 74, 75, 76, 77, 78, 89, 90, 91, 92, 93, 94, 95, 96, 97, 98, 99, 100, 101, 102, 103, 104] (by decide +kernel) (by decide +kernel)
set_option maxRecDepth 20000 in
theorem gL_users_X0_cost : GoodIn wsL_users (wsV RL 86 RX0 yX0_cost wsX0_cost) := goodIn_app (goodIn_of _ (by decide +kernel)) ggL_users_X0_cost
set_option maxRecDepth 20000 in
theorem ggL_users_X0_grants : GoodIn wsL_users wsX0_grants := goodIn_r _ [88, 13, 72, 73, 74, 75, 76, 77, 78, 89, 90, 91, 92, 93, 94, 95, 96, 97, 98, 99, 100, 101, 102, 103, 104] (by decide +kernel) (by decide +kernel)
set_option maxRecDepth 20000 in
theorem gL_users_X0_grants : GoodIn wsL_users (wsV RL 89 RX0 yX0_grants wsX0_grants) := goodIn_app (goodIn_of _ (by decide +kernel)) ggL_users_X0_grants
theorem dL_users_0 : decode cL_users 0 = .ok (.iload_n 2, 1) := by decide +kernel
theorem dL_users_1 : decode cL_users 1 = .ok (.aload_n 0, 1) := by decide +kernel
theorem dL_users_2 : decode cL_users 2 = .ok (.invokevirtual 83, 3) := by decide +kernel
theorem dL_users_5 : decode cL_users 5 = .ok (.imul, 1) := by decide +kernel
theorem dL_users_6 : decode cL_users 6 = .ok (.istore 4, 2) := by decide +kernel
theorem dL_users_8 : decode cL_users 8 = .ok (.iconst 0, 1) := by decide +kernel
theorem dL_users_9 : decode cL_users 9 = .ok (.istore 5, 2) := by decide +kernel
theorem dL_users_11 : decode cL_users 11 = .ok (.iconst 0, 1) := by decide +kernel
theorem dL_users_12 : decode cL_users 12 = .ok (.istore 6, 2) := by decide +kernel
theorem dL_users_14 : decode cL_users 14 = .ok (.iload 6, 2) := by decide +kernel
theorem dL_users_16 : decode cL_users 16 = .ok (.bipush 8, 2) := by decide +kernel
theorem dL_users_18 : decode cL_users 18 = .ok (.if_icmp .ge 240, 3) := by decide +kernel
theorem dL_users_21 : decode cL_users 21 = .ok (.aload_n 0, 1) := by decide +kernel
theorem dL_users_22 : decode cL_users 22 = .ok (.iload 6, 2) := by decide +kernel
theorem dL_users_24 : decode cL_users 24 = .ok (.invokevirtual 68, 3) := by decide +kernel
theorem dL_users_27 : decode cL_users 27 = .ok (.istore 7, 2) := by decide +kernel
theorem dL_users_29 : decode cL_users 29 = .ok (.iconst 0, 1) := by decide +kernel
theorem dL_users_30 : decode cL_users 30 = .ok (.istore 8, 2) := by decide +kernel
theorem dL_users_32 : decode cL_users 32 = .ok (.iconst 0, 1) := by decide +kernel
theorem dL_users_33 : decode cL_users 33 = .ok (.istore 9, 2) := by decide +kernel
theorem dL_users_35 : decode cL_users 35 = .ok (.iconst 0, 1) := by decide +kernel
theorem dL_users_36 : decode cL_users 36 = .ok (.istore 10, 2) := by decide +kernel
theorem dL_users_38 : decode cL_users 38 = .ok (.iconst 0, 1) := by decide +kernel
theorem dL_users_39 : decode cL_users 39 = .ok (.istore 11, 2) := by decide +kernel
theorem dL_users_41 : decode cL_users 41 = .ok (.iload 11, 2) := by decide +kernel
theorem dL_users_43 : decode cL_users 43 = .ok (.aload_n 0, 1) := by decide +kernel
theorem dL_users_44 : decode cL_users 44 = .ok (.invokevirtual 83, 3) := by decide +kernel
theorem dL_users_47 : decode cL_users 47 = .ok (.if_icmp .ge 65, 3) := by decide +kernel
theorem dL_users_50 : decode cL_users 50 = .ok (.aload_n 0, 1) := by decide +kernel
theorem dL_users_51 : decode cL_users 51 = .ok (.iload 11, 2) := by decide +kernel
theorem dL_users_53 : decode cL_users 53 = .ok (.invokestatic 108, 3) := by decide +kernel
theorem dL_users_56 : decode cL_users 56 = .ok (.iload 7, 2) := by decide +kernel
theorem dL_users_58 : decode cL_users 58 = .ok (.iconst (-1), 1) := by decide +kernel
theorem dL_users_59 : decode cL_users 59 = .ok (.ixor, 1) := by decide +kernel
theorem dL_users_60 : decode cL_users 60 = .ok (.iand, 1) := by decide +kernel
theorem dL_users_61 : decode cL_users 61 = .ok (.ifCond .ne 7, 3) := by decide +kernel
theorem dL_users_64 : decode cL_users 64 = .ok (.iconst 1, 1) := by decide +kernel
theorem dL_users_65 : decode cL_users 65 = .ok (.goto 4, 3) := by decide +kernel
theorem dL_users_68 : decode cL_users 68 = .ok (.iconst 0, 1) := by decide +kernel
theorem dL_users_69 : decode cL_users 69 = .ok (.istore 12, 2) := by decide +kernel
theorem dL_users_71 : decode cL_users 71 = .ok (.iload 8, 2) := by decide +kernel
theorem dL_users_73 : decode cL_users 73 = .ok (.iload 12, 2) := by decide +kernel
theorem dL_users_75 : decode cL_users 75 = .ok (.ifCond .eq 12, 3) := by decide +kernel
theorem dL_users_78 : decode cL_users 78 = .ok (.aload_n 0, 1) := by decide +kernel
theorem dL_users_79 : decode cL_users 79 = .ok (.iload 11, 2) := by decide +kernel
theorem dL_users_81 : decode cL_users 81 = .ok (.invokestatic 108, 3) := by decide +kernel
theorem dL_users_84 : decode cL_users 84 = .ok (.goto 4, 3) := by decide +kernel
theorem dL_users_87 : decode cL_users 87 = .ok (.iconst 0, 1) := by decide +kernel
theorem dL_users_88 : decode cL_users 88 = .ok (.ior, 1) := by decide +kernel
theorem dL_users_89 : decode cL_users 89 = .ok (.istore 8, 2) := by decide +kernel
theorem dL_users_91 : decode cL_users 91 = .ok (.iload 9, 2) := by decide +kernel
theorem dL_users_93 : decode cL_users 93 = .ok (.iload 12, 2) := by decide +kernel
theorem dL_users_95 : decode cL_users 95 = .ok (.ifCond .eq 7, 3) := by decide +kernel
theorem dL_users_98 : decode cL_users 98 = .ok (.iconst 1, 1) := by decide +kernel
theorem dL_users_99 : decode cL_users 99 = .ok (.goto 4, 3) := by decide +kernel
theorem dL_users_102 : decode cL_users 102 = .ok (.iconst 0, 1) := by decide +kernel
theorem dL_users_103 : decode cL_users 103 = .ok (.iadd, 1) := by decide +kernel
theorem dL_users_104 : decode cL_users 104 = .ok (.istore 9, 2) := by decide +kernel
theorem dL_users_106 : decode cL_users 106 = .ok (.iinc 11 1, 3) := by decide +kernel
theorem dL_users_109 : decode cL_users 109 = .ok (.goto (-68), 3) := by decide +kernel
theorem dL_users_112 : decode cL_users 112 = .ok (.iconst 0, 1) := by decide +kernel
theorem dL_users_113 : decode cL_users 113 = .ok (.istore 11, 2) := by decide +kernel
theorem dL_users_115 : decode cL_users 115 = .ok (.iload 11, 2) := by decide +kernel
theorem dL_users_117 : decode cL_users 117 = .ok (.bipush 12, 2) := by decide +kernel
theorem dL_users_119 : decode cL_users 119 = .ok (.if_icmp .ge 39, 3) := by decide +kernel
theorem dL_users_122 : decode cL_users 122 = .ok (.iload 10, 2) := by decide +kernel
theorem dL_users_124 : decode cL_users 124 = .ok (.iload 7, 2) := by decide +kernel
theorem dL_users_126 : decode cL_users 126 = .ok (.iload 11, 2) := by decide +kernel
theorem dL_users_128 : decode cL_users 128 = .ok (.ishr, 1) := by decide +kernel
theorem dL_users_129 : decode cL_users 129 = .ok (.iconst 1, 1) := by decide +kernel
theorem dL_users_130 : decode cL_users 130 = .ok (.iand, 1) := by decide +kernel
theorem dL_users_131 : decode cL_users 131 = .ok (.iconst 1, 1) := by decide +kernel
theorem dL_users_132 : decode cL_users 132 = .ok (.if_icmp .ne 16, 3) := by decide +kernel
theorem dL_users_135 : decode cL_users 135 = .ok (.aload_n 1, 1) := by decide +kernel
theorem dL_users_136 : decode cL_users 136 = .ok (.iload 11, 2) := by decide +kernel
theorem dL_users_138 : decode cL_users 138 = .ok (.iaload, 1) := by decide +kernel
theorem dL_users_139 : decode cL_users 139 = .ok (.iload 7, 2) := by decide +kernel
theorem dL_users_141 : decode cL_users 141 = .ok (.iand, 1) := by decide +kernel
theorem dL_users_142 : decode cL_users 142 = .ok (.invokestatic 105, 3) := by decide +kernel
theorem dL_users_145 : decode cL_users 145 = .ok (.goto 4, 3) := by decide +kernel
theorem dL_users_148 : decode cL_users 148 = .ok (.iconst 0, 1) := by decide +kernel
theorem dL_users_149 : decode cL_users 149 = .ok (.iadd, 1) := by decide +kernel
theorem dL_users_150 : decode cL_users 150 = .ok (.istore 10, 2) := by decide +kernel
theorem dL_users_152 : decode cL_users 152 = .ok (.iinc 11 1, 3) := by decide +kernel
theorem dL_users_155 : decode cL_users 155 = .ok (.goto (-40), 3) := by decide +kernel
theorem dL_users_158 : decode cL_users 158 = .ok (.aload_n 0, 1) := by decide +kernel
theorem dL_users_159 : decode cL_users 159 = .ok (.iload 6, 2) := by decide +kernel
theorem dL_users_161 : decode cL_users 161 = .ok (.invokevirtual 77, 3) := by decide +kernel
theorem dL_users_164 : decode cL_users 164 = .ok (.iload 8, 2) := by decide +kernel
theorem dL_users_166 : decode cL_users 166 = .ok (.if_icmp .ne 57, 3) := by decide +kernel
theorem dL_users_169 : decode cL_users 169 = .ok (.aload_n 0, 1) := by decide +kernel
theorem dL_users_170 : decode cL_users 170 = .ok (.iload 6, 2) := by decide +kernel
theorem dL_users_172 : decode cL_users 172 = .ok (.invokevirtual 110, 3) := by decide +kernel
theorem dL_users_175 : decode cL_users 175 = .ok (.iload 9, 2) := by decide +kernel
theorem dL_users_177 : decode cL_users 177 = .ok (.if_icmp .ne 46, 3) := by decide +kernel
theorem dL_users_180 : decode cL_users 180 = .ok (.aload_n 0, 1) := by decide +kernel
theorem dL_users_181 : decode cL_users 181 = .ok (.iload 6, 2) := by decide +kernel
theorem dL_users_183 : decode cL_users 183 = .ok (.invokevirtual 113, 3) := by decide +kernel
theorem dL_users_186 : decode cL_users 186 = .ok (.iload 7, 2) := by decide +kernel
theorem dL_users_188 : decode cL_users 188 = .ok (.iload 8, 2) := by decide +kernel
theorem dL_users_190 : decode cL_users 190 = .ok (.iconst (-1), 1) := by decide +kernel
theorem dL_users_191 : decode cL_users 191 = .ok (.ixor, 1) := by decide +kernel
theorem dL_users_192 : decode cL_users 192 = .ok (.iand, 1) := by decide +kernel
theorem dL_users_193 : decode cL_users 193 = .ok (.if_icmp .ne 30, 3) := by decide +kernel
theorem dL_users_196 : decode cL_users 196 = .ok (.aload_n 0, 1) := by decide +kernel
theorem dL_users_197 : decode cL_users 197 = .ok (.iload 6, 2) := by decide +kernel
theorem dL_users_199 : decode cL_users 199 = .ok (.invokevirtual 71, 3) := by decide +kernel
theorem dL_users_202 : decode cL_users 202 = .ok (.iload 7, 2) := by decide +kernel
theorem dL_users_204 : decode cL_users 204 = .ok (.iconst (-1), 1) := by decide +kernel
theorem dL_users_205 : decode cL_users 205 = .ok (.ixor, 1) := by decide +kernel
theorem dL_users_206 : decode cL_users 206 = .ok (.iand, 1) := by decide +kernel
theorem dL_users_207 : decode cL_users 207 = .ok (.ifCond .ne 16, 3) := by decide +kernel
theorem dL_users_210 : decode cL_users 210 = .ok (.iconst 2, 1) := by decide +kernel
theorem dL_users_211 : decode cL_users 211 = .ok (.aload_n 0, 1) := by decide +kernel
theorem dL_users_212 : decode cL_users 212 = .ok (.iload 6, 2) := by decide +kernel
theorem dL_users_214 : decode cL_users 214 = .ok (.invokevirtual 74, 3) := by decide +kernel
theorem dL_users_217 : decode cL_users 217 = .ok (.imul, 1) := by decide +kernel
theorem dL_users_218 : decode cL_users 218 = .ok (.iload 10, 2) := by decide +kernel
theorem dL_users_220 : decode cL_users 220 = .ok (.if_icmp .eq 5, 3) := by decide +kernel
theorem dL_users_223 : decode cL_users 223 = .ok (.iconst 0, 1) := by decide +kernel
theorem dL_users_224 : decode cL_users 224 = .ok (.ireturn, 1) := by decide +kernel
theorem dL_users_225 : decode cL_users 225 = .ok (.iload 4, 2) := by decide +kernel
theorem dL_users_227 : decode cL_users 227 = .ok (.iload_n 3, 1) := by decide +kernel
theorem dL_users_228 : decode cL_users 228 = .ok (.iload 7, 2) := by decide +kernel
theorem dL_users_230 : decode cL_users 230 = .ok (.iload 8, 2) := by decide +kernel
theorem dL_users_232 : decode cL_users 232 = .ok (.iconst (-1), 1) := by decide +kernel
theorem dL_users_233 : decode cL_users 233 = .ok (.ixor, 1) := by decide +kernel
theorem dL_users_234 : decode cL_users 234 = .ok (.iand, 1) := by decide +kernel
theorem dL_users_235 : decode cL_users 235 = .ok (.invokestatic 105, 3) := by decide +kernel
theorem dL_users_238 : decode cL_users 238 = .ok (.imul, 1) := by decide +kernel
theorem dL_users_239 : decode cL_users 239 = .ok (.iadd, 1) := by decide +kernel
theorem dL_users_240 : decode cL_users 240 = .ok (.istore 4, 2) := by decide +kernel
theorem dL_users_242 : decode cL_users 242 = .ok (.iload 5, 2) := by decide +kernel
theorem dL_users_244 : decode cL_users 244 = .ok (.iload 7, 2) := by decide +kernel
theorem dL_users_246 : decode cL_users 246 = .ok (.invokestatic 105, 3) := by decide +kernel
theorem dL_users_249 : decode cL_users 249 = .ok (.iadd, 1) := by decide +kernel
theorem dL_users_250 : decode cL_users 250 = .ok (.istore 5, 2) := by decide +kernel
theorem dL_users_252 : decode cL_users 252 = .ok (.iinc 6 1, 3) := by decide +kernel
theorem dL_users_255 : decode cL_users 255 = .ok (.goto (-241), 3) := by decide +kernel
theorem dL_users_258 : decode cL_users 258 = .ok (.aload_n 0, 1) := by decide +kernel
theorem dL_users_259 : decode cL_users 259 = .ok (.invokevirtual 86, 3) := by decide +kernel
theorem dL_users_262 : decode cL_users 262 = .ok (.iload 4, 2) := by decide +kernel
theorem dL_users_264 : decode cL_users 264 = .ok (.if_icmp .ne 16, 3) := by decide +kernel
theorem dL_users_267 : decode cL_users 267 = .ok (.aload_n 0, 1) := by decide +kernel
theorem dL_users_268 : decode cL_users 268 = .ok (.invokevirtual 89, 3) := by decide +kernel
theorem dL_users_271 : decode cL_users 271 = .ok (.iload 5, 2) := by decide +kernel
theorem dL_users_273 : decode cL_users 273 = .ok (.if_icmp .ne 7, 3) := by decide +kernel
theorem dL_users_276 : decode cL_users 276 = .ok (.iconst 1, 1) := by decide +kernel
theorem dL_users_277 : decode cL_users 277 = .ok (.goto 4, 3) := by decide +kernel
theorem dL_users_280 : decode cL_users 280 = .ok (.iconst 0, 1) := by decide +kernel
theorem dL_users_281 : decode cL_users 281 = .ok (.ireturn, 1) := by decide +kernel
set_option maxRecDepth 20000 in
theorem ggL_laid_X0_candidates : GoodIn wsL_laid wsX0_candidates := goodIn_r _ [5, 6, 7, 8, 9, 4, 10, 11, 12, 13, 14, 15, 16, 17, 18, 19, 20, 21, 22, 23, 24, 25, 26, 27, 28, 29, 30, 31, 32, 33, 34, 35, 36, 37, 38, 39, 40, 41, 42, 43, 44, 45, 46, 47, 48, 49, 50, 51, 52, 53, 54, 55, 56, 57, 58, 59, 60, 61, 86, 87, 88, 89, 90, 91, 92, 93, 94, 95, 96, 97, 98, 99, 100, 101] (by decide +kernel) (by decide +kernel)
set_option maxRecDepth 20000 in
theorem gL_laid_X0_candidates : GoodIn wsL_laid (wsV RL 92 RX0 yX0_candidates wsX0_candidates) := goodIn_app (goodIn_of _ (by decide +kernel)) ggL_laid_X0_candidates
set_option maxRecDepth 20000 in
theorem ggL_laid_X0_roles : GoodIn wsL_laid wsX0_roles := goodIn_r _ [65, 66, 86, 87, 88, 89, 90, 91, 92, 93, 94, 95, 96, 97, 98, 99, 100, 101] (by decide +kernel) (by decide +kernel)
set_option maxRecDepth 20000 in
theorem gL_laid_X0_roles : GoodIn wsL_laid (wsV RL 83 RX0 yX0_roles wsX0_roles) := goodIn_app (goodIn_of _ (by decide +kernel)) ggL_laid_X0_roles
set_option maxRecDepth 20000 in
theorem ggL_laid_L_candidate : GoodIn wsL_laid wsL_candidate := goodIn_ca (goodIn_r _ [70, 71, 72, 73, 74, 4, 75, 76, 77, 6, 12, 7, 8, 9, 10, 11, 13, 14, 15, 16, 17, 18, 19, 20, 21, 22, 23, 24, 25, 26, 27, 28, 29, 30, 31, 32, 33, 34, 35, 36, 37, 38, 39, 40, 41, 42, 43, 44, 45, 46, 47, 48, 49, 50, 51, 52, 53, 54, 55, 56, 57, 58, 59, 60, 61, 86, 87, 88, 89, 90, 91, 92, 93, 94, 95, 96, 97, 98, 99, 100, 101] (by decide +kernel) (by decide +kernel)) (goodIn_sub (fun _ h => List.mem_cons_of_mem _ (List.mem_append_right _ h)) (by decide +kernel))
set_option maxRecDepth 20000 in
theorem gL_laid_L_candidate : GoodIn wsL_laid (va_wsS RL 95 yL_candidate wsL_candidate) := goodIn_app (goodIn_of _ (by decide +kernel)) ggL_laid_L_candidate
set_option maxRecDepth 20000 in
theorem ggL_laid_L_role : GoodIn wsL_laid wsL_role := goodIn_ca (goodIn_r _ [80, 71, 81, 82, 83, 4, 84, 76, 77, 66, 85, 86, 87, 88, 89, 90, 91, 92, 93, 94, 95, 96, 97, 98, 99, 100, 101] (by decide +kernel) (by decide +kernel)) (goodIn_sub (fun _ h => List.mem_cons_of_mem _ (List.mem_append_right _ h)) (by decide +kernel))
set_option maxRecDepth 20000 in
theorem gL_laid_L_role : GoodIn wsL_laid (va_wsS RL 108 yL_role wsL_role) := goodIn_app (goodIn_of _ (by decide +kernel)) ggL_laid_L_role
theorem dL_laid_0 : decode cL_laid 0 = .ok (.iconst 0, 1) := by decide +kernel
theorem dL_laid_1 : decode cL_laid 1 = .ok (.istore_n 1, 1) := by decide +kernel
theorem dL_laid_2 : decode cL_laid 2 = .ok (.iconst 0, 1) := by decide +kernel
theorem dL_laid_3 : decode cL_laid 3 = .ok (.istore_n 2, 1) := by decide +kernel
theorem dL_laid_4 : decode cL_laid 4 = .ok (.iload_n 2, 1) := by decide +kernel
theorem dL_laid_5 : decode cL_laid 5 = .ok (.aload_n 0, 1) := by decide +kernel
theorem dL_laid_6 : decode cL_laid 6 = .ok (.invokevirtual 92, 3) := by decide +kernel
theorem dL_laid_9 : decode cL_laid 9 = .ok (.if_icmp .ge 38, 3) := by decide +kernel
theorem dL_laid_12 : decode cL_laid 12 = .ok (.iload_n 1, 1) := by decide +kernel
theorem dL_laid_13 : decode cL_laid 13 = .ok (.aload_n 0, 1) := by decide +kernel
theorem dL_laid_14 : decode cL_laid 14 = .ok (.invokevirtual 83, 3) := by decide +kernel
theorem dL_laid_17 : decode cL_laid 17 = .ok (.if_icmp .ge 30, 3) := by decide +kernel
theorem dL_laid_20 : decode cL_laid 20 = .ok (.iload_n 1, 1) := by decide +kernel
theorem dL_laid_21 : decode cL_laid 21 = .ok (.aload_n 0, 1) := by decide +kernel
theorem dL_laid_22 : decode cL_laid 22 = .ok (.iload_n 2, 1) := by decide +kernel
theorem dL_laid_23 : decode cL_laid 23 = .ok (.invokestatic 95, 3) := by decide +kernel
theorem dL_laid_26 : decode cL_laid 26 = .ok (.aload_n 0, 1) := by decide +kernel
theorem dL_laid_27 : decode cL_laid 27 = .ok (.iload_n 1, 1) := by decide +kernel
theorem dL_laid_28 : decode cL_laid 28 = .ok (.invokestatic 108, 3) := by decide +kernel
theorem dL_laid_31 : decode cL_laid 31 = .ok (.if_icmp .ne 7, 3) := by decide +kernel
theorem dL_laid_34 : decode cL_laid 34 = .ok (.iconst 1, 1) := by decide +kernel
theorem dL_laid_35 : decode cL_laid 35 = .ok (.goto 4, 3) := by decide +kernel
theorem dL_laid_38 : decode cL_laid 38 = .ok (.iconst 0, 1) := by decide +kernel
theorem dL_laid_39 : decode cL_laid 39 = .ok (.iadd, 1) := by decide +kernel
theorem dL_laid_40 : decode cL_laid 40 = .ok (.istore_n 1, 1) := by decide +kernel
theorem dL_laid_41 : decode cL_laid 41 = .ok (.iinc 2 1, 3) := by decide +kernel
theorem dL_laid_44 : decode cL_laid 44 = .ok (.goto (-40), 3) := by decide +kernel
theorem dL_laid_47 : decode cL_laid 47 = .ok (.iload_n 1, 1) := by decide +kernel
theorem dL_laid_48 : decode cL_laid 48 = .ok (.aload_n 0, 1) := by decide +kernel
theorem dL_laid_49 : decode cL_laid 49 = .ok (.invokevirtual 83, 3) := by decide +kernel
theorem dL_laid_52 : decode cL_laid 52 = .ok (.if_icmp .ne 17, 3) := by decide +kernel
theorem dL_laid_55 : decode cL_laid 55 = .ok (.aload_n 0, 1) := by decide +kernel
theorem dL_laid_56 : decode cL_laid 56 = .ok (.iload_n 1, 1) := by decide +kernel
theorem dL_laid_57 : decode cL_laid 57 = .ok (.invokestatic 108, 3) := by decide +kernel
theorem dL_laid_60 : decode cL_laid 60 = .ok (.bipush (-2), 2) := by decide +kernel
theorem dL_laid_62 : decode cL_laid 62 = .ok (.if_icmp .ne 7, 3) := by decide +kernel
theorem dL_laid_65 : decode cL_laid 65 = .ok (.iconst 1, 1) := by decide +kernel
theorem dL_laid_66 : decode cL_laid 66 = .ok (.goto 4, 3) := by decide +kernel
theorem dL_laid_69 : decode cL_laid 69 = .ok (.iconst 0, 1) := by decide +kernel
theorem dL_laid_70 : decode cL_laid 70 = .ok (.ireturn, 1) := by decide +kernel
set_option maxRecDepth 20000 in
theorem ggL_act_L_low : GoodIn wsL_act wsL_low := goodIn_r _ [4, 5] (by decide +kernel) (by decide +kernel)
set_option maxRecDepth 20000 in
theorem gL_act_L_low : GoodIn wsL_act (va_wsS RL 116 yL_low wsL_low) := goodIn_app (goodIn_of _ (by decide +kernel)) ggL_act_L_low
set_option maxRecDepth 20000 in
theorem ggL_act_L_all : GoodIn wsL_act wsL_all := goodIn_ca (goodIn_ca (goodIn_r _ [8, 9, 10, 11, 12, 13, 14, 15, 16, 17, 18, 19, 20, 21, 22, 23, 24, 25, 26, 27, 28, 29, 30, 31, 32, 33, 34, 35, 36, 37, 38, 39, 40, 41, 208, 209, 210, 211, 212, 213, 214, 215, 216, 217, 218, 219, 220, 221, 222, 223] (by decide +kernel) (by decide +kernel)) (goodIn_sub (fun _ h => List.mem_cons_of_mem _ (List.mem_append_left _ (List.mem_append_left _ (List.mem_append_right _ h)))) (by decide +kernel))) (goodIn_sub (fun _ h => List.mem_cons_of_mem _ (List.mem_append_left _ (List.mem_append_right _ h))) (by decide +kernel))
set_option maxRecDepth 20000 in
theorem gL_act_L_all : GoodIn wsL_act (va_wsS RL 119 yL_all wsL_all) := goodIn_app (goodIn_of _ (by decide +kernel)) ggL_act_L_all
set_option maxRecDepth 20000 in
theorem ggL_act_L_granted : GoodIn wsL_act wsL_granted := goodIn_ca (goodIn_r _ [44, 9, 45, 46, 47, 14, 48, 16, 17, 20, 21, 22, 23, 24, 25, 49, 50, 51, 29, 30, 31, 32, 33, 34, 52, 53, 54, 55, 208, 209, 210, 211, 212, 213, 214, 215, 216, 217, 218, 219, 220, 221, 222, 223] (by decide +kernel) (by decide +kernel)) (goodIn_sub (fun _ h => List.mem_cons_of_mem _ (List.mem_append_left _ (List.mem_append_left _ (List.mem_append_right _ h)))) (by decide +kernel))
set_option maxRecDepth 20000 in
theorem gL_act_L_granted : GoodIn wsL_act (va_wsS RL 123 yL_granted wsL_granted) := goodIn_app (goodIn_of _ (by decide +kernel)) ggL_act_L_granted
set_option maxRecDepth 20000 in
theorem ggL_act_L_clash : GoodIn wsL_act wsL_clash := goodIn_ca (goodIn_ca (goodIn_r _ [58, 9, 10, 59, 60, 61, 14, 62, 16, 17, 18, 19, 63, 49, 50, 51, 29, 30, 31, 208, 209, 210, 211, 212, 213, 214, 215, 216, 217, 218, 219, 220, 221, 222, 223] (by decide +kernel) (by decide +kernel)) (goodIn_sub (fun _ h => List.mem_cons_of_mem _ (List.mem_append_left _ (List.mem_append_left _ (List.mem_append_right _ h)))) (by decide +kernel))) (goodIn_sub (fun _ h => List.mem_cons_of_mem _ (List.mem_append_left _ (List.mem_append_right _ h))) (by decide +kernel))
set_option maxRecDepth 20000 in
theorem gL_act_L_clash : GoodIn wsL_act (va_wsS RL 127 yL_clash wsL_clash) := goodIn_app (goodIn_of _ (by decide +kernel)) ggL_act_L_clash
set_option maxRecDepth 20000 in
theorem ggL_act_L_costs : GoodIn wsL_act wsL_costs := goodIn_ca (goodIn_r _ [66, 10, 67, 68, 69, 14, 70, 18, 19, 71, 72, 73, 74, 75, 208, 209, 210, 211, 212, 213, 214, 215, 216, 217, 218, 219, 220, 221, 222, 223] (by decide +kernel) (by decide +kernel)) (goodIn_sub (fun _ h => List.mem_cons_of_mem _ (List.mem_append_left _ (List.mem_append_right _ h))) (by decide +kernel))
set_option maxRecDepth 20000 in
theorem gL_act_L_costs : GoodIn wsL_act (va_wsS RL 130 yL_costs wsL_costs) := goodIn_app (goodIn_of _ (by decide +kernel)) ggL_act_L_costs
set_option maxRecDepth 20000 in
theorem ggL_act_L_setting : GoodIn wsL_act wsL_setting := goodIn_ca (goodIn_r _ [78, 10, 79, 80, 81, 14, 82, 18, 19, 83, 84, 85, 86, 87, 88, 208, 209, 210, 211, 212, 213, 214, 215, 216, 217, 218, 219, 220, 221, 222, 223] (by decide +kernel) (by decide +kernel)) (goodIn_sub (fun _ h => List.mem_cons_of_mem _ (List.mem_append_left _ (List.mem_append_right _ h))) (by decide +kernel))
set_option maxRecDepth 20000 in
theorem gL_act_L_setting : GoodIn wsL_act (va_wsS RL 133 yL_setting wsL_setting) := goodIn_app (goodIn_of _ (by decide +kernel)) ggL_act_L_setting
set_option maxRecDepth 20000 in
theorem ggL_act_L_review : GoodIn wsL_act wsL_review := goodIn_ca (goodIn_ca (goodIn_r _ [91, 9, 92, 93, 94, 95, 14, 96, 16, 17, 97, 98, 20, 22, 21, 23, 24, 25, 49, 50, 51, 29, 30, 31, 32, 33, 34, 208, 209, 210, 211, 212, 213, 214, 215, 216, 217, 218, 219, 220, 221, 222, 223] (by decide +kernel) (by decide +kernel)) (goodIn_sub (fun _ h => List.mem_cons_of_mem _ (List.mem_append_left _ (List.mem_append_left _ (List.mem_append_right _ h)))) (by decide +kernel))) (goodIn_sub (fun _ h => List.mem_cons_of_mem _ (List.mem_append_right _ h)) (by decide +kernel))
set_option maxRecDepth 20000 in
theorem gL_act_L_review : GoodIn wsL_act (va_wsS RL 137 yL_review wsL_review) := goodIn_app (goodIn_of _ (by decide +kernel)) ggL_act_L_review
set_option maxRecDepth 20000 in
theorem ggL_act_L_quarter : GoodIn wsL_act wsL_quarter := goodIn_ca (goodIn_r _ [101, 92, 102, 103, 104, 14, 105, 97, 98, 22, 20, 106, 107, 108, 109, 21, 88, 32, 33, 34, 29, 30, 31, 35, 36, 37, 38, 39, 40, 41, 208, 209, 210, 211, 212, 213, 214, 215, 216, 217, 218, 219, 220, 221, 222, 223] (by decide +kernel) (by decide +kernel)) (goodIn_sub (fun _ h => List.mem_cons_of_mem _ (List.mem_append_right _ h)) (by decide +kernel))
set_option maxRecDepth 20000 in
theorem gL_act_L_quarter : GoodIn wsL_act (va_wsS RL 139 yL_quarter wsL_quarter) := goodIn_app (goodIn_of _ (by decide +kernel)) ggL_act_L_quarter
set_option maxRecDepth 20000 in
theorem ggL_act_X0_mineGreedily : GoodIn wsL_act wsX0_mineGreedily := goodIn_r _ [113, 114, 115, 116, 117, 118, 119, 120, 121, 122, 123, 124, 125, 14, 126, 83, 127, 128, 129, 130, 20, 29, 30, 31, 131, 132, 133, 134, 135, 136, 137, 138, 35, 36, 37, 38, 39, 40, 41, 139, 140, 141, 142, 63, 143, 144, 145, 146, 147, 148, 149, 150, 151, 152, 153, 154, 155, 156, 157, 158, 159, 160, 161, 162, 163, 72, 71, 164, 165, 166, 167, 168, 169, 170, 171, 172, 173, 174, 208, 209, 210, 211, 212, 213, 214, 215, 216, 217, 218, 219, 220, 221, 222, 223] (by decide +kernel) (by decide +kernel)
set_option maxRecDepth 20000 in
theorem gL_act_X0_mineGreedily : GoodIn wsL_act (wsV RL 142 RX0 yX0_mineGreedily wsX0_mineGreedily) := goodIn_app (goodIn_of _ (by decide +kernel)) ggL_act_X0_mineGreedily
set_option maxRecDepth 20000 in
theorem ggL_act_L_best : GoodIn wsL_act wsL_best := goodIn_ca (goodIn_r _ [177, 92, 178, 179, 180, 14, 181, 97, 98, 117, 114, 118, 119, 123, 124, 125, 126, 83, 127, 128, 129, 130, 20, 29, 30, 31, 131, 132, 133, 134, 135, 136, 137, 138, 35, 36, 37, 38, 39, 40, 41, 139, 140, 141, 142, 63, 143, 144, 145, 146, 147, 148, 149, 120, 122, 150, 151, 152, 153, 154, 155, 156, 157, 158, 159, 115, 116, 182, 183, 184, 185, 186, 187, 188, 189, 121, 190, 191, 192, 193, 171, 172, 173, 174, 71, 72, 164, 165, 166, 167, 168, 169, 170, 194, 195, 196, 197, 198, 199, 200, 201, 202, 203, 208, 209, 210, 211, 212, 213, 214, 215, 216, 217, 218, 219, 220, 221, 222, 223] (by decide +kernel) (by decide +kernel)) (goodIn_sub (fun _ h => List.mem_cons_of_mem _ (List.mem_append_right _ h)) (by decide +kernel))
set_option maxRecDepth 20000 in
theorem gL_act_L_best : GoodIn wsL_act (va_wsS RL 145 yL_best wsL_best) := goodIn_app (goodIn_of _ (by decide +kernel)) ggL_act_L_best
set_option maxRecDepth 20000 in
theorem ggL_act_X0_dropRoles : GoodIn wsL_act wsX0_dropRoles := goodIn_r _ [207, 114, 208, 209, 210, 211, 212, 213, 214, 215, 216, 217, 218, 219, 220, 221, 222, 223] (by decide +kernel) (by decide +kernel)
set_option maxRecDepth 20000 in
theorem gL_act_X0_dropRoles : GoodIn wsL_act (wsV RL 148 RX0 yX0_dropRoles wsX0_dropRoles) := goodIn_app (goodIn_of _ (by decide +kernel)) ggL_act_X0_dropRoles
theorem dL_act_0 : decode cL_act 0 = .ok (.iload_n 2, 1) := by decide +kernel
theorem dL_act_1 : decode cL_act 1 = .ok (.bipush 9, 2) := by decide +kernel
theorem dL_act_3 : decode cL_act 3 = .ok (.invokestatic 116, 3) := by decide +kernel
theorem dL_act_6 : decode cL_act 6 = .ok (.istore_n 3, 1) := by decide +kernel
theorem dL_act_7 : decode cL_act 7 = .ok (.iload_n 2, 1) := by decide +kernel
theorem dL_act_8 : decode cL_act 8 = .ok (.iconst 4, 1) := by decide +kernel
theorem dL_act_9 : decode cL_act 9 = .ok (.ishr, 1) := by decide +kernel
theorem dL_act_10 : decode cL_act 10 = .ok (.bipush 13, 2) := by decide +kernel
theorem dL_act_12 : decode cL_act 12 = .ok (.invokestatic 116, 3) := by decide +kernel
theorem dL_act_15 : decode cL_act 15 = .ok (.istore 4, 2) := by decide +kernel
theorem dL_act_17 : decode cL_act 17 = .ok (.iload_n 1, 1) := by decide +kernel
theorem dL_act_18 : decode cL_act 18 = .ok (.tableswitch 254 0 11 #[62, 62, 123, 132, 141, 173, 208, 219, 231, 239, 244, 249], 62) := by decide +kernel
theorem dL_act_80 : decode cL_act 80 = .ok (.aload_n 0, 1) := by decide +kernel
theorem dL_act_81 : decode cL_act 81 = .ok (.iload_n 3, 1) := by decide +kernel
theorem dL_act_82 : decode cL_act 82 = .ok (.iload_n 2, 1) := by decide +kernel
theorem dL_act_83 : decode cL_act 83 = .ok (.bipush 8, 2) := by decide +kernel
theorem dL_act_85 : decode cL_act 85 = .ok (.ishr, 1) := by decide +kernel
theorem dL_act_86 : decode cL_act 86 = .ok (.bipush 10, 2) := by decide +kernel
theorem dL_act_88 : decode cL_act 88 = .ok (.invokestatic 116, 3) := by decide +kernel
theorem dL_act_91 : decode cL_act 91 = .ok (.ifCond .ne 9, 3) := by decide +kernel
theorem dL_act_94 : decode cL_act 94 = .ok (.sipush 4096, 3) := by decide +kernel
theorem dL_act_97 : decode cL_act 97 = .ok (.goto 40, 3) := by decide +kernel
theorem dL_act_100 : decode cL_act 100 = .ok (.iload_n 2, 1) := by decide +kernel
theorem dL_act_101 : decode cL_act 101 = .ok (.bipush 12, 2) := by decide +kernel
theorem dL_act_103 : decode cL_act 103 = .ok (.ishr, 1) := by decide +kernel
theorem dL_act_104 : decode cL_act 104 = .ok (.sipush 4096, 3) := by decide +kernel
theorem dL_act_107 : decode cL_act 107 = .ok (.invokestatic 116, 3) := by decide +kernel
theorem dL_act_110 : decode cL_act 110 = .ok (.iload_n 2, 1) := by decide +kernel
theorem dL_act_111 : decode cL_act 111 = .ok (.bipush 9, 2) := by decide +kernel
theorem dL_act_113 : decode cL_act 113 = .ok (.ishr, 1) := by decide +kernel
theorem dL_act_114 : decode cL_act 114 = .ok (.iconst 3, 1) := by decide +kernel
theorem dL_act_115 : decode cL_act 115 = .ok (.invokestatic 116, 3) := by decide +kernel
theorem dL_act_118 : decode cL_act 118 = .ok (.ifCond .ne 9, 3) := by decide +kernel
theorem dL_act_121 : decode cL_act 121 = .ok (.sipush 4095, 3) := by decide +kernel
theorem dL_act_124 : decode cL_act 124 = .ok (.goto 12, 3) := by decide +kernel
theorem dL_act_127 : decode cL_act 127 = .ok (.iload_n 2, 1) := by decide +kernel
theorem dL_act_128 : decode cL_act 128 = .ok (.iconst 3, 1) := by decide +kernel
theorem dL_act_129 : decode cL_act 129 = .ok (.ishr, 1) := by decide +kernel
theorem dL_act_130 : decode cL_act 130 = .ok (.sipush 4096, 3) := by decide +kernel
theorem dL_act_133 : decode cL_act 133 = .ok (.invokestatic 116, 3) := by decide +kernel
theorem dL_act_136 : decode cL_act 136 = .ok (.iand, 1) := by decide +kernel
theorem dL_act_137 : decode cL_act 137 = .ok (.invokestatic 119, 3) := by decide +kernel
theorem dL_act_140 : decode cL_act 140 = .ok (.ireturn, 1) := by decide +kernel
theorem dL_act_141 : decode cL_act 141 = .ok (.aload_n 0, 1) := by decide +kernel
theorem dL_act_142 : decode cL_act 142 = .ok (.iload_n 3, 1) := by decide +kernel
theorem dL_act_143 : decode cL_act 143 = .ok (.iload 4, 2) := by decide +kernel
theorem dL_act_145 : decode cL_act 145 = .ok (.iconst 1, 1) := by decide +kernel
theorem dL_act_146 : decode cL_act 146 = .ok (.invokestatic 123, 3) := by decide +kernel
theorem dL_act_149 : decode cL_act 149 = .ok (.ireturn, 1) := by decide +kernel
theorem dL_act_150 : decode cL_act 150 = .ok (.aload_n 0, 1) := by decide +kernel
theorem dL_act_151 : decode cL_act 151 = .ok (.iload_n 3, 1) := by decide +kernel
theorem dL_act_152 : decode cL_act 152 = .ok (.iload 4, 2) := by decide +kernel
theorem dL_act_154 : decode cL_act 154 = .ok (.iconst 0, 1) := by decide +kernel
theorem dL_act_155 : decode cL_act 155 = .ok (.invokestatic 123, 3) := by decide +kernel
theorem dL_act_158 : decode cL_act 158 = .ok (.ireturn, 1) := by decide +kernel
theorem dL_act_159 : decode cL_act 159 = .ok (.aload_n 0, 1) := by decide +kernel
theorem dL_act_160 : decode cL_act 160 = .ok (.iload 4, 2) := by decide +kernel
theorem dL_act_162 : decode cL_act 162 = .ok (.iload_n 2, 1) := by decide +kernel
theorem dL_act_163 : decode cL_act 163 = .ok (.bipush 9, 2) := by decide +kernel
theorem dL_act_165 : decode cL_act 165 = .ok (.ishr, 1) := by decide +kernel
theorem dL_act_166 : decode cL_act 166 = .ok (.bipush 12, 2) := by decide +kernel
theorem dL_act_168 : decode cL_act 168 = .ok (.invokestatic 116, 3) := by decide +kernel
theorem dL_act_171 : decode cL_act 171 = .ok (.iload_n 2, 1) := by decide +kernel
theorem dL_act_172 : decode cL_act 172 = .ok (.bipush 13, 2) := by decide +kernel
theorem dL_act_174 : decode cL_act 174 = .ok (.ishr, 1) := by decide +kernel
theorem dL_act_175 : decode cL_act 175 = .ok (.iconst 3, 1) := by decide +kernel
theorem dL_act_176 : decode cL_act 176 = .ok (.invokestatic 116, 3) := by decide +kernel
theorem dL_act_179 : decode cL_act 179 = .ok (.ifCond .le 7, 3) := by decide +kernel
theorem dL_act_182 : decode cL_act 182 = .ok (.iconst 1, 1) := by decide +kernel
theorem dL_act_183 : decode cL_act 183 = .ok (.goto 4, 3) := by decide +kernel
theorem dL_act_186 : decode cL_act 186 = .ok (.iconst 0, 1) := by decide +kernel
theorem dL_act_187 : decode cL_act 187 = .ok (.invokestatic 127, 3) := by decide +kernel
theorem dL_act_190 : decode cL_act 190 = .ok (.ireturn, 1) := by decide +kernel
theorem dL_act_191 : decode cL_act 191 = .ok (.aload_n 0, 1) := by decide +kernel
theorem dL_act_192 : decode cL_act 192 = .ok (.iload_n 2, 1) := by decide +kernel
theorem dL_act_193 : decode cL_act 193 = .ok (.bipush 12, 2) := by decide +kernel
theorem dL_act_195 : decode cL_act 195 = .ok (.invokestatic 116, 3) := by decide +kernel
theorem dL_act_198 : decode cL_act 198 = .ok (.iload_n 2, 1) := by decide +kernel
theorem dL_act_199 : decode cL_act 199 = .ok (.iconst 5, 1) := by decide +kernel
theorem dL_act_200 : decode cL_act 200 = .ok (.ishr, 1) := by decide +kernel
theorem dL_act_201 : decode cL_act 201 = .ok (.bipush 8, 2) := by decide +kernel
theorem dL_act_203 : decode cL_act 203 = .ok (.invokestatic 116, 3) := by decide +kernel
theorem dL_act_206 : decode cL_act 206 = .ok (.ifCond .ne 8, 3) := by decide +kernel
theorem dL_act_209 : decode cL_act 209 = .ok (.bipush 101, 2) := by decide +kernel
theorem dL_act_211 : decode cL_act 211 = .ok (.goto 11, 3) := by decide +kernel
theorem dL_act_214 : decode cL_act 214 = .ok (.iload_n 2, 1) := by decide +kernel
theorem dL_act_215 : decode cL_act 215 = .ok (.iconst 5, 1) := by decide +kernel
theorem dL_act_216 : decode cL_act 216 = .ok (.ishr, 1) := by decide +kernel
theorem dL_act_217 : decode cL_act 217 = .ok (.bipush 8, 2) := by decide +kernel
theorem dL_act_219 : decode cL_act 219 = .ok (.invokestatic 116, 3) := by decide +kernel
theorem dL_act_222 : decode cL_act 222 = .ok (.invokestatic 130, 3) := by decide +kernel
theorem dL_act_225 : decode cL_act 225 = .ok (.ireturn, 1) := by decide +kernel
theorem dL_act_226 : decode cL_act 226 = .ok (.aload_n 0, 1) := by decide +kernel
theorem dL_act_227 : decode cL_act 227 = .ok (.iconst 1, 1) := by decide +kernel
theorem dL_act_228 : decode cL_act 228 = .ok (.iload_n 2, 1) := by decide +kernel
theorem dL_act_229 : decode cL_act 229 = .ok (.iconst 5, 1) := by decide +kernel
theorem dL_act_230 : decode cL_act 230 = .ok (.invokestatic 116, 3) := by decide +kernel
theorem dL_act_233 : decode cL_act 233 = .ok (.invokestatic 133, 3) := by decide +kernel
theorem dL_act_236 : decode cL_act 236 = .ok (.ireturn, 1) := by decide +kernel
theorem dL_act_237 : decode cL_act 237 = .ok (.aload_n 0, 1) := by decide +kernel
theorem dL_act_238 : decode cL_act 238 = .ok (.iconst 0, 1) := by decide +kernel
theorem dL_act_239 : decode cL_act 239 = .ok (.iload_n 2, 1) := by decide +kernel
theorem dL_act_240 : decode cL_act 240 = .ok (.bipush 6, 2) := by decide +kernel
theorem dL_act_242 : decode cL_act 242 = .ok (.invokestatic 116, 3) := by decide +kernel
theorem dL_act_245 : decode cL_act 245 = .ok (.invokestatic 133, 3) := by decide +kernel
theorem dL_act_248 : decode cL_act 248 = .ok (.ireturn, 1) := by decide +kernel
theorem dL_act_249 : decode cL_act 249 = .ok (.aload_n 0, 1) := by decide +kernel
theorem dL_act_250 : decode cL_act 250 = .ok (.iload_n 3, 1) := by decide +kernel
theorem dL_act_251 : decode cL_act 251 = .ok (.iload 4, 2) := by decide +kernel
theorem dL_act_253 : decode cL_act 253 = .ok (.invokestatic 137, 3) := by decide +kernel
theorem dL_act_256 : decode cL_act 256 = .ok (.ireturn, 1) := by decide +kernel
theorem dL_act_257 : decode cL_act 257 = .ok (.aload_n 0, 1) := by decide +kernel
theorem dL_act_258 : decode cL_act 258 = .ok (.invokestatic 139, 3) := by decide +kernel
theorem dL_act_261 : decode cL_act 261 = .ok (.ireturn, 1) := by decide +kernel
theorem dL_act_262 : decode cL_act 262 = .ok (.aload_n 0, 1) := by decide +kernel
theorem dL_act_263 : decode cL_act 263 = .ok (.invokevirtual 142, 3) := by decide +kernel
theorem dL_act_266 : decode cL_act 266 = .ok (.ireturn, 1) := by decide +kernel
theorem dL_act_267 : decode cL_act 267 = .ok (.aload_n 0, 1) := by decide +kernel
theorem dL_act_268 : decode cL_act 268 = .ok (.invokestatic 145, 3) := by decide +kernel
theorem dL_act_271 : decode cL_act 271 = .ok (.ireturn, 1) := by decide +kernel
theorem dL_act_272 : decode cL_act 272 = .ok (.aload_n 0, 1) := by decide +kernel
theorem dL_act_273 : decode cL_act 273 = .ok (.invokevirtual 148, 3) := by decide +kernel
theorem dL_act_276 : decode cL_act 276 = .ok (.ireturn, 1) := by decide +kernel
set_option maxRecDepth 20000 in
theorem ggL_left_L_least : GoodIn wsL_left wsL_least := goodIn_ca (goodIn_r _ [4, 5, 6, 7, 8, 9, 10, 11, 12, 13, 14, 15, 16, 17, 18, 19, 20, 21, 22, 23, 24, 25, 26, 27, 28, 29, 30, 31, 32, 33, 34, 35, 36, 37, 38, 39, 40, 41, 42, 43, 44, 45, 46, 47, 48, 49, 50, 51, 52, 53, 54, 55, 56, 57, 58, 59, 60, 61, 62, 63, 64, 65, 66, 67, 68, 69, 70, 71, 72, 73, 74, 75, 76, 77, 78, 79, 80, 81, 82, 83, 84, 85, 86, 87, 88, 89, 90, 91, 92, 93, 94, 95, 96, 97, 98, 99, 100, 101, 102, 103, 104, 162, 163, 164, 165, 166, 167, 168, 169, 170, 171, 172, 173, 174, 175, 176, 177] (by decide +kernel) (by decide +kernel)) (goodIn_sub (fun _ h => List.mem_cons_of_mem _ (List.mem_append_left _ (List.mem_append_right _ h))) (by decide +kernel))
set_option maxRecDepth 20000 in
theorem gL_left_L_least : GoodIn wsL_left (va_wsS RL 151 yL_least wsL_least) := goodIn_app (goodIn_of _ (by decide +kernel)) ggL_left_L_least
set_option maxRecDepth 20000 in
theorem ggL_left_X0_cost : GoodIn wsL_left wsX0_cost := goodIn_r _ [108, 24, 86, 109, 87, 110, 111, 112, 9, 113, 114, 32, 33, 34, 35, 36, 37, 38, 39, 40, 41, 42, 162, 163, 164, 165, 166, 167, 168, 169, 170, 171, 172, 173, 174, 175, 176, 177] (by decide +kernel) (by decide +kernel)
set_option maxRecDepth 20000 in
theorem gL_left_X0_cost : GoodIn wsL_left (wsV RL 86 RX0 yX0_cost wsX0_cost) := goodIn_app (goodIn_of _ (by decide +kernel)) ggL_left_X0_cost
set_option maxRecDepth 20000 in
theorem ggL_left_L_laid : GoodIn wsL_left wsL_laid := goodIn_ca (goodIn_r _ [117, 118, 119, 120, 9, 121, 13, 14, 15, 16, 17, 18, 19, 20, 21, 22, 23, 24, 25, 26, 27, 28, 29, 30, 31, 32, 33, 34, 35, 36, 37, 38, 39, 40, 41, 42, 43, 44, 45, 46, 47, 48, 49, 50, 51, 52, 53, 54, 55, 56, 57, 58, 59, 60, 61, 62, 63, 64, 65, 66, 67, 68, 122, 123, 124, 125, 109, 126, 127, 3, 128, 129, 130, 131, 132, 133, 134, 135, 136, 137, 138, 139, 140, 141, 142, 114, 162, 163, 164, 165, 166, 167, 168, 169, 170, 171, 172, 173, 174, 175, 176, 177] (by decide +kernel) (by decide +kernel)) (goodIn_sub (fun _ h => List.mem_cons_of_mem _ (List.mem_append_right _ h)) (by decide +kernel))
set_option maxRecDepth 20000 in
theorem gL_left_L_laid : GoodIn wsL_left (va_wsS RL 154 yL_laid wsL_laid) := goodIn_app (goodIn_of _ (by decide +kernel)) ggL_left_L_laid
set_option maxRecDepth 20000 in
theorem ggL_left_X0_grants : GoodIn wsL_left wsX0_grants := goodIn_r _ [146, 24, 36, 37, 38, 39, 40, 41, 42, 162, 163, 164, 165, 166, 167, 168, 169, 170, 171, 172, 173, 174, 175, 176, 177] (by decide +kernel) (by decide +kernel)
set_option maxRecDepth 20000 in
theorem gL_left_X0_grants : GoodIn wsL_left (wsV RL 89 RX0 yX0_grants wsX0_grants) := goodIn_app (goodIn_of _ (by decide +kernel)) ggL_left_X0_grants
set_option maxRecDepth 20000 in
theorem ggL_left_L_size : GoodIn wsL_left wsL_size := goodIn_r _ [149] (by decide +kernel) (by decide +kernel)
set_option maxRecDepth 20000 in
theorem gL_left_L_size : GoodIn wsL_left (va_wsS RL 105 yL_size wsL_size) := goodIn_app (goodIn_of _ (by decide +kernel)) ggL_left_L_size
set_option maxRecDepth 20000 in
theorem ggL_left_X0_permissions : GoodIn wsL_left wsX0_permissions := goodIn_ca (goodIn_r _ [153, 134, 135, 24, 154, 155, 9, 156, 162, 163, 164, 165, 166, 167, 168, 169, 170, 171, 172, 173, 174, 175, 176, 177] (by decide +kernel) (by decide +kernel)) (goodIn_sub (fun _ h => List.mem_cons_of_mem _ (List.mem_append_right _ h)) (by decide +kernel))
set_option maxRecDepth 20000 in
theorem gL_left_X0_permissions : GoodIn wsL_left (wsV RL 68 RX0 yX0_permissions wsX0_permissions) := goodIn_app (goodIn_of _ (by decide +kernel)) ggL_left_X0_permissions
set_option maxRecDepth 20000 in
theorem ggL_left_X0_quarter : GoodIn wsL_left wsX0_quarter := goodIn_r _ [160, 161, 162, 163, 164, 165, 166, 167, 168, 169, 170, 171, 172, 173, 174, 175, 176, 177] (by decide +kernel) (by decide +kernel)
set_option maxRecDepth 20000 in
theorem gL_left_X0_quarter : GoodIn wsL_left (wsV RL 80 RX0 yX0_quarter wsX0_quarter) := goodIn_app (goodIn_of _ (by decide +kernel)) ggL_left_X0_quarter
set_option maxRecDepth 20000 in
theorem ggL_left_X0_roles : GoodIn wsL_left wsX0_roles := goodIn_r _ [125, 109, 162, 163, 164, 165, 166, 167, 168, 169, 170, 171, 172, 173, 174, 175, 176, 177] (by decide +kernel) (by decide +kernel)
set_option maxRecDepth 20000 in
theorem gL_left_X0_roles : GoodIn wsL_left (wsV RL 83 RX0 yX0_roles wsX0_roles) := goodIn_app (goodIn_of _ (by decide +kernel)) ggL_left_X0_roles
theorem dL_left_0 : decode cL_left 0 = .ok (.iload_n 1, 1) := by decide +kernel
theorem dL_left_1 : decode cL_left 1 = .ok (.bipush 10, 2) := by decide +kernel
theorem dL_left_3 : decode cL_left 3 = .ok (.if_icmp .eq 9, 3) := by decide +kernel
theorem dL_left_6 : decode cL_left 6 = .ok (.iload_n 1, 1) := by decide +kernel
theorem dL_left_7 : decode cL_left 7 = .ok (.bipush 11, 2) := by decide +kernel
theorem dL_left_9 : decode cL_left 9 = .ok (.if_icmp .ne 69, 3) := by decide +kernel
theorem dL_left_12 : decode cL_left 12 = .ok (.aload_n 0, 1) := by decide +kernel
theorem dL_left_13 : decode cL_left 13 = .ok (.invokestatic 151, 3) := by decide +kernel
theorem dL_left_16 : decode cL_left 16 = .ok (.istore 6, 2) := by decide +kernel
theorem dL_left_18 : decode cL_left 18 = .ok (.iload_n 3, 1) := by decide +kernel
theorem dL_left_19 : decode cL_left 19 = .ok (.aload_n 0, 1) := by decide +kernel
theorem dL_left_20 : decode cL_left 20 = .ok (.invokevirtual 86, 3) := by decide +kernel
theorem dL_left_23 : decode cL_left 23 = .ok (.if_icmp .ne 53, 3) := by decide +kernel
theorem dL_left_26 : decode cL_left 26 = .ok (.aload_n 0, 1) := by decide +kernel
theorem dL_left_27 : decode cL_left 27 = .ok (.invokestatic 154, 3) := by decide +kernel
theorem dL_left_30 : decode cL_left 30 = .ok (.ifCond .eq 46, 3) := by decide +kernel
theorem dL_left_33 : decode cL_left 33 = .ok (.iload 6, 2) := by decide +kernel
theorem dL_left_35 : decode cL_left 35 = .ok (.ifCond .lt 24, 3) := by decide +kernel
theorem dL_left_38 : decode cL_left 38 = .ok (.iload_n 1, 1) := by decide +kernel
theorem dL_left_39 : decode cL_left 39 = .ok (.bipush 11, 2) := by decide +kernel
theorem dL_left_41 : decode cL_left 41 = .ok (.if_icmp .ne 12, 3) := by decide +kernel
theorem dL_left_44 : decode cL_left 44 = .ok (.iload_n 3, 1) := by decide +kernel
theorem dL_left_45 : decode cL_left 45 = .ok (.iload 6, 2) := by decide +kernel
theorem dL_left_47 : decode cL_left 47 = .ok (.if_icmp .ne 29, 3) := by decide +kernel
theorem dL_left_50 : decode cL_left 50 = .ok (.goto 9, 3) := by decide +kernel
theorem dL_left_53 : decode cL_left 53 = .ok (.iload_n 3, 1) := by decide +kernel
theorem dL_left_54 : decode cL_left 54 = .ok (.iload 6, 2) := by decide +kernel
theorem dL_left_56 : decode cL_left 56 = .ok (.if_icmp .lt 20, 3) := by decide +kernel
theorem dL_left_59 : decode cL_left 59 = .ok (.iload_n 3, 1) := by decide +kernel
theorem dL_left_60 : decode cL_left 60 = .ok (.aload 5, 2) := by decide +kernel
theorem dL_left_62 : decode cL_left 62 = .ok (.iconst 1, 1) := by decide +kernel
theorem dL_left_63 : decode cL_left 63 = .ok (.iaload, 1) := by decide +kernel
theorem dL_left_64 : decode cL_left 64 = .ok (.aload_n 0, 1) := by decide +kernel
theorem dL_left_65 : decode cL_left 65 = .ok (.invokevirtual 89, 3) := by decide +kernel
theorem dL_left_68 : decode cL_left 68 = .ok (.imul, 1) := by decide +kernel
theorem dL_left_69 : decode cL_left 69 = .ok (.if_icmp .gt 7, 3) := by decide +kernel
theorem dL_left_72 : decode cL_left 72 = .ok (.iconst 1, 1) := by decide +kernel
theorem dL_left_73 : decode cL_left 73 = .ok (.goto 4, 3) := by decide +kernel
theorem dL_left_76 : decode cL_left 76 = .ok (.iconst 0, 1) := by decide +kernel
theorem dL_left_77 : decode cL_left 77 = .ok (.ireturn, 1) := by decide +kernel
theorem dL_left_78 : decode cL_left 78 = .ok (.iload_n 1, 1) := by decide +kernel
theorem dL_left_79 : decode cL_left 79 = .ok (.bipush 9, 2) := by decide +kernel
theorem dL_left_81 : decode cL_left 81 = .ok (.if_icmp .ne 91, 3) := by decide +kernel
theorem dL_left_84 : decode cL_left 84 = .ok (.iconst 0, 1) := by decide +kernel
theorem dL_left_85 : decode cL_left 85 = .ok (.istore 6, 2) := by decide +kernel
theorem dL_left_87 : decode cL_left 87 = .ok (.iconst 0, 1) := by decide +kernel
theorem dL_left_88 : decode cL_left 88 = .ok (.istore 7, 2) := by decide +kernel
theorem dL_left_90 : decode cL_left 90 = .ok (.iload 7, 2) := by decide +kernel
theorem dL_left_92 : decode cL_left 92 = .ok (.bipush 8, 2) := by decide +kernel
theorem dL_left_94 : decode cL_left 94 = .ok (.if_icmp .ge 52, 3) := by decide +kernel
theorem dL_left_97 : decode cL_left 97 = .ok (.iload 6, 2) := by decide +kernel
theorem dL_left_99 : decode cL_left 99 = .ok (.aload 4, 2) := by decide +kernel
theorem dL_left_101 : decode cL_left 101 = .ok (.bipush 8, 2) := by decide +kernel
theorem dL_left_103 : decode cL_left 103 = .ok (.iload 7, 2) := by decide +kernel
theorem dL_left_105 : decode cL_left 105 = .ok (.iadd, 1) := by decide +kernel
theorem dL_left_106 : decode cL_left 106 = .ok (.iaload, 1) := by decide +kernel
theorem dL_left_107 : decode cL_left 107 = .ok (.invokestatic 105, 3) := by decide +kernel
theorem dL_left_110 : decode cL_left 110 = .ok (.iadd, 1) := by decide +kernel
theorem dL_left_111 : decode cL_left 111 = .ok (.istore 6, 2) := by decide +kernel
theorem dL_left_113 : decode cL_left 113 = .ok (.aload_n 0, 1) := by decide +kernel
theorem dL_left_114 : decode cL_left 114 = .ok (.iload 7, 2) := by decide +kernel
theorem dL_left_116 : decode cL_left 116 = .ok (.invokevirtual 68, 3) := by decide +kernel
theorem dL_left_119 : decode cL_left 119 = .ok (.aload 4, 2) := by decide +kernel
theorem dL_left_121 : decode cL_left 121 = .ok (.iload 7, 2) := by decide +kernel
theorem dL_left_123 : decode cL_left 123 = .ok (.iaload, 1) := by decide +kernel
theorem dL_left_124 : decode cL_left 124 = .ok (.aload 4, 2) := by decide +kernel
theorem dL_left_126 : decode cL_left 126 = .ok (.bipush 8, 2) := by decide +kernel
theorem dL_left_128 : decode cL_left 128 = .ok (.iload 7, 2) := by decide +kernel
theorem dL_left_130 : decode cL_left 130 = .ok (.iadd, 1) := by decide +kernel
theorem dL_left_131 : decode cL_left 131 = .ok (.iaload, 1) := by decide +kernel
theorem dL_left_132 : decode cL_left 132 = .ok (.iconst (-1), 1) := by decide +kernel
theorem dL_left_133 : decode cL_left 133 = .ok (.ixor, 1) := by decide +kernel
theorem dL_left_134 : decode cL_left 134 = .ok (.iand, 1) := by decide +kernel
theorem dL_left_135 : decode cL_left 135 = .ok (.if_icmp .eq 5, 3) := by decide +kernel
theorem dL_left_138 : decode cL_left 138 = .ok (.iconst 0, 1) := by decide +kernel
theorem dL_left_139 : decode cL_left 139 = .ok (.ireturn, 1) := by decide +kernel
theorem dL_left_140 : decode cL_left 140 = .ok (.iinc 7 1, 3) := by decide +kernel
theorem dL_left_143 : decode cL_left 143 = .ok (.goto (-53), 3) := by decide +kernel
theorem dL_left_146 : decode cL_left 146 = .ok (.iload_n 3, 1) := by decide +kernel
theorem dL_left_147 : decode cL_left 147 = .ok (.iload 6, 2) := by decide +kernel
theorem dL_left_149 : decode cL_left 149 = .ok (.if_icmp .ne 21, 3) := by decide +kernel
theorem dL_left_152 : decode cL_left 152 = .ok (.aload_n 0, 1) := by decide +kernel
theorem dL_left_153 : decode cL_left 153 = .ok (.invokevirtual 80, 3) := by decide +kernel
theorem dL_left_156 : decode cL_left 156 = .ok (.aload 4, 2) := by decide +kernel
theorem dL_left_158 : decode cL_left 158 = .ok (.bipush 32, 2) := by decide +kernel
theorem dL_left_160 : decode cL_left 160 = .ok (.iaload, 1) := by decide +kernel
theorem dL_left_161 : decode cL_left 161 = .ok (.iconst 1, 1) := by decide +kernel
theorem dL_left_162 : decode cL_left 162 = .ok (.iadd, 1) := by decide +kernel
theorem dL_left_163 : decode cL_left 163 = .ok (.if_icmp .ne 7, 3) := by decide +kernel
theorem dL_left_166 : decode cL_left 166 = .ok (.iconst 1, 1) := by decide +kernel
theorem dL_left_167 : decode cL_left 167 = .ok (.goto 4, 3) := by decide +kernel
theorem dL_left_170 : decode cL_left 170 = .ok (.iconst 0, 1) := by decide +kernel
theorem dL_left_171 : decode cL_left 171 = .ok (.ireturn, 1) := by decide +kernel
theorem dL_left_172 : decode cL_left 172 = .ok (.iload_n 1, 1) := by decide +kernel
theorem dL_left_173 : decode cL_left 173 = .ok (.bipush 12, 2) := by decide +kernel
theorem dL_left_175 : decode cL_left 175 = .ok (.if_icmp .ne 25, 3) := by decide +kernel
theorem dL_left_178 : decode cL_left 178 = .ok (.iload_n 3, 1) := by decide +kernel
theorem dL_left_179 : decode cL_left 179 = .ok (.aload 4, 2) := by decide +kernel
theorem dL_left_181 : decode cL_left 181 = .ok (.bipush 33, 2) := by decide +kernel
theorem dL_left_183 : decode cL_left 183 = .ok (.iaload, 1) := by decide +kernel
theorem dL_left_184 : decode cL_left 184 = .ok (.if_icmp .ne 14, 3) := by decide +kernel
theorem dL_left_187 : decode cL_left 187 = .ok (.aload_n 0, 1) := by decide +kernel
theorem dL_left_188 : decode cL_left 188 = .ok (.invokevirtual 83, 3) := by decide +kernel
theorem dL_left_191 : decode cL_left 191 = .ok (.ifCond .ne 7, 3) := by decide +kernel
theorem dL_left_194 : decode cL_left 194 = .ok (.iconst 1, 1) := by decide +kernel
theorem dL_left_195 : decode cL_left 195 = .ok (.goto 4, 3) := by decide +kernel
theorem dL_left_198 : decode cL_left 198 = .ok (.iconst 0, 1) := by decide +kernel
theorem dL_left_199 : decode cL_left 199 = .ok (.ireturn, 1) := by decide +kernel
theorem dL_left_200 : decode cL_left 200 = .ok (.aload_n 0, 1) := by decide +kernel
theorem dL_left_201 : decode cL_left 201 = .ok (.invokevirtual 80, 3) := by decide +kernel
theorem dL_left_204 : decode cL_left 204 = .ok (.aload 4, 2) := by decide +kernel
theorem dL_left_206 : decode cL_left 206 = .ok (.bipush 32, 2) := by decide +kernel
theorem dL_left_208 : decode cL_left 208 = .ok (.iaload, 1) := by decide +kernel
theorem dL_left_209 : decode cL_left 209 = .ok (.if_icmp .ne 45, 3) := by decide +kernel
theorem dL_left_212 : decode cL_left 212 = .ok (.aload_n 0, 1) := by decide +kernel
theorem dL_left_213 : decode cL_left 213 = .ok (.invokevirtual 83, 3) := by decide +kernel
theorem dL_left_216 : decode cL_left 216 = .ok (.aload 4, 2) := by decide +kernel
theorem dL_left_218 : decode cL_left 218 = .ok (.bipush 33, 2) := by decide +kernel
theorem dL_left_220 : decode cL_left 220 = .ok (.iaload, 1) := by decide +kernel
theorem dL_left_221 : decode cL_left 221 = .ok (.if_icmp .ne 33, 3) := by decide +kernel
theorem dL_left_224 : decode cL_left 224 = .ok (.iload_n 1, 1) := by decide +kernel
theorem dL_left_225 : decode cL_left 225 = .ok (.iconst 3, 1) := by decide +kernel
theorem dL_left_226 : decode cL_left 226 = .ok (.if_icmp .le 18, 3) := by decide +kernel
theorem dL_left_229 : decode cL_left 229 = .ok (.aload_n 0, 1) := by decide +kernel
theorem dL_left_230 : decode cL_left 230 = .ok (.invokevirtual 89, 3) := by decide +kernel
theorem dL_left_233 : decode cL_left 233 = .ok (.aload 4, 2) := by decide +kernel
theorem dL_left_235 : decode cL_left 235 = .ok (.bipush 35, 2) := by decide +kernel
theorem dL_left_237 : decode cL_left 237 = .ok (.iaload, 1) := by decide +kernel
theorem dL_left_238 : decode cL_left 238 = .ok (.if_icmp .ne 16, 3) := by decide +kernel
theorem dL_left_241 : decode cL_left 241 = .ok (.goto 9, 3) := by decide +kernel
theorem dL_left_244 : decode cL_left 244 = .ok (.iload_n 3, 1) := by decide +kernel
theorem dL_left_245 : decode cL_left 245 = .ok (.bipush 12, 2) := by decide +kernel
theorem dL_left_247 : decode cL_left 247 = .ok (.if_icmp .gt 7, 3) := by decide +kernel
theorem dL_left_250 : decode cL_left 250 = .ok (.iconst 1, 1) := by decide +kernel
theorem dL_left_251 : decode cL_left 251 = .ok (.goto 4, 3) := by decide +kernel
theorem dL_left_254 : decode cL_left 254 = .ok (.iconst 0, 1) := by decide +kernel
theorem dL_left_255 : decode cL_left 255 = .ok (.ireturn, 1) := by decide +kernel
