set_option maxRecDepth 20000 in
theorem ggL_grant_X0_grant : GoodIn wsL_grant wsX0_grant := goodIn_ca (goodIn_r _ [6, 7, 8, 9, 10, 11, 12, 13, 5, 14, 15, 16, 17, 18, 19, 20, 21, 22, 23, 24, 25, 26, 27, 28, 29, 30, 31, 32, 33, 34, 35, 36, 37, 38, 39] (by decide +kernel) (by decide +kernel)) (goodIn_sub (fun _ h => List.mem_cons_of_mem _ (List.mem_append_right _ h)) (by decide +kernel))
set_option maxRecDepth 20000 in
theorem gL_grant_X0_grant : GoodIn wsL_grant (wsV RL 7 RX0 yX0_grant wsX0_grant) := goodIn_app (goodIn_of _ (by decide +kernel)) ggL_grant_X0_grant
theorem dL_grant_0 : decode cL_grant 0 = .ok (.aload_n 3, 1) := by decide +kernel
theorem dL_grant_1 : decode cL_grant 1 = .ok (.iconst 0, 1) := by decide +kernel
theorem dL_grant_2 : decode cL_grant 2 = .ok (.aload_n 0, 1) := by decide +kernel
theorem dL_grant_3 : decode cL_grant 3 = .ok (.iload_n 1, 1) := by decide +kernel
theorem dL_grant_4 : decode cL_grant 4 = .ok (.iload_n 2, 1) := by decide +kernel
theorem dL_grant_5 : decode cL_grant 5 = .ok (.invokevirtual 7, 3) := by decide +kernel
theorem dL_grant_8 : decode cL_grant 8 = .ok (.ifCond .eq 7, 3) := by decide +kernel
theorem dL_grant_11 : decode cL_grant 11 = .ok (.lconst 1, 1) := by decide +kernel
theorem dL_grant_12 : decode cL_grant 12 = .ok (.goto 4, 3) := by decide +kernel
theorem dL_grant_15 : decode cL_grant 15 = .ok (.lconst 0, 1) := by decide +kernel
theorem dL_grant_16 : decode cL_grant 16 = .ok (.lastore, 1) := by decide +kernel
theorem dL_grant_17 : decode cL_grant 17 = .ok (.goto 7, 3) := by decide +kernel
theorem dL_grant_20 : decode cL_grant 20 = .ok (.astore 4, 2) := by decide +kernel
theorem dL_grant_22 : decode cL_grant 22 = .ok (.iconst 1, 1) := by decide +kernel
theorem dL_grant_23 : decode cL_grant 23 = .ok (.ireturn, 1) := by decide +kernel
theorem dL_grant_24 : decode cL_grant 24 = .ok (.iconst 0, 1) := by decide +kernel
theorem dL_grant_25 : decode cL_grant 25 = .ok (.ireturn, 1) := by decide +kernel
set_option maxRecDepth 20000 in
theorem ggL_revoke_X0_revoke : GoodIn wsL_revoke wsX0_revoke := goodIn_ca (goodIn_r _ [6, 7, 8, 9, 10, 11, 5, 12, 13, 14, 15, 16, 17, 18, 19, 20, 21, 22, 23, 24, 25, 26, 27, 28, 29, 30, 31, 32, 33, 34] (by decide +kernel) (by decide +kernel)) (goodIn_sub (fun _ h => List.mem_cons_of_mem _ (List.mem_append_right _ h)) (by decide +kernel))
set_option maxRecDepth 20000 in
theorem gL_revoke_X0_revoke : GoodIn wsL_revoke (wsV RL 15 RX0 yX0_revoke wsX0_revoke) := goodIn_app (goodIn_of _ (by decide +kernel)) ggL_revoke_X0_revoke
theorem dL_revoke_0 : decode cL_revoke 0 = .ok (.aload_n 3, 1) := by decide +kernel
theorem dL_revoke_1 : decode cL_revoke 1 = .ok (.iconst 0, 1) := by decide +kernel
theorem dL_revoke_2 : decode cL_revoke 2 = .ok (.aload_n 0, 1) := by decide +kernel
theorem dL_revoke_3 : decode cL_revoke 3 = .ok (.iload_n 1, 1) := by decide +kernel
theorem dL_revoke_4 : decode cL_revoke 4 = .ok (.iload_n 2, 1) := by decide +kernel
theorem dL_revoke_5 : decode cL_revoke 5 = .ok (.invokevirtual 15, 3) := by decide +kernel
theorem dL_revoke_8 : decode cL_revoke 8 = .ok (.ifCond .eq 7, 3) := by decide +kernel
theorem dL_revoke_11 : decode cL_revoke 11 = .ok (.lconst 1, 1) := by decide +kernel
theorem dL_revoke_12 : decode cL_revoke 12 = .ok (.goto 4, 3) := by decide +kernel
theorem dL_revoke_15 : decode cL_revoke 15 = .ok (.lconst 0, 1) := by decide +kernel
theorem dL_revoke_16 : decode cL_revoke 16 = .ok (.lastore, 1) := by decide +kernel
theorem dL_revoke_17 : decode cL_revoke 17 = .ok (.goto 7, 3) := by decide +kernel
theorem dL_revoke_20 : decode cL_revoke 20 = .ok (.astore 4, 2) := by decide +kernel
theorem dL_revoke_22 : decode cL_revoke 22 = .ok (.iconst 1, 1) := by decide +kernel
theorem dL_revoke_23 : decode cL_revoke 23 = .ok (.ireturn, 1) := by decide +kernel
theorem dL_revoke_24 : decode cL_revoke 24 = .ok (.iconst 0, 1) := by decide +kernel
theorem dL_revoke_25 : decode cL_revoke 25 = .ok (.ireturn, 1) := by decide +kernel
set_option maxRecDepth 20000 in
theorem ggL_setGrants_X0_setGrants : GoodIn wsL_setGrants wsX0_setGrants := goodIn_ca (goodIn_ca (goodIn_r _ [7, 8, 9, 10, 11, 12, 13, 14, 15, 16, 6, 17, 18, 19, 20, 21, 22, 23, 24, 25, 26, 27, 28, 29, 30, 31, 32, 33, 34, 35, 36, 37, 38, 39, 40, 41, 42, 43, 44, 45, 46, 47, 48, 49] (by decide +kernel) (by decide +kernel)) (goodIn_sub (fun _ h => List.mem_cons_of_mem _ (List.mem_append_left _ (List.mem_append_right _ h))) (by decide +kernel))) (goodIn_sub (fun _ h => List.mem_cons_of_mem _ (List.mem_append_right _ h)) (by decide +kernel))
set_option maxRecDepth 20000 in
theorem gL_setGrants_X0_setGrants : GoodIn wsL_setGrants (wsV RL 18 RX0 yX0_setGrants wsX0_setGrants) := goodIn_app (goodIn_of _ (by decide +kernel)) ggL_setGrants_X0_setGrants
theorem dL_setGrants_0 : decode cL_setGrants 0 = .ok (.aload_n 3, 1) := by decide +kernel
theorem dL_setGrants_1 : decode cL_setGrants 1 = .ok (.iconst 0, 1) := by decide +kernel
theorem dL_setGrants_2 : decode cL_setGrants 2 = .ok (.aload_n 0, 1) := by decide +kernel
theorem dL_setGrants_3 : decode cL_setGrants 3 = .ok (.iload_n 1, 1) := by decide +kernel
theorem dL_setGrants_4 : decode cL_setGrants 4 = .ok (.iload_n 2, 1) := by decide +kernel
theorem dL_setGrants_5 : decode cL_setGrants 5 = .ok (.invokevirtual 18, 3) := by decide +kernel
theorem dL_setGrants_8 : decode cL_setGrants 8 = .ok (.i2l, 1) := by decide +kernel
theorem dL_setGrants_9 : decode cL_setGrants 9 = .ok (.lastore, 1) := by decide +kernel
theorem dL_setGrants_10 : decode cL_setGrants 10 = .ok (.goto 11, 3) := by decide +kernel
theorem dL_setGrants_13 : decode cL_setGrants 13 = .ok (.astore 4, 2) := by decide +kernel
theorem dL_setGrants_15 : decode cL_setGrants 15 = .ok (.iconst 1, 1) := by decide +kernel
theorem dL_setGrants_16 : decode cL_setGrants 16 = .ok (.ireturn, 1) := by decide +kernel
theorem dL_setGrants_17 : decode cL_setGrants 17 = .ok (.astore 4, 2) := by decide +kernel
theorem dL_setGrants_19 : decode cL_setGrants 19 = .ok (.iconst 2, 1) := by decide +kernel
theorem dL_setGrants_20 : decode cL_setGrants 20 = .ok (.ireturn, 1) := by decide +kernel
theorem dL_setGrants_21 : decode cL_setGrants 21 = .ok (.iconst 0, 1) := by decide +kernel
theorem dL_setGrants_22 : decode cL_setGrants 22 = .ok (.ireturn, 1) := by decide +kernel
set_option maxRecDepth 20000 in
theorem ggL_setConflict_X0_setConflict : GoodIn wsL_setConflict wsX0_setConflict := goodIn_ca (goodIn_ca (goodIn_r _ [7, 8, 9, 10, 11, 12, 13, 14, 6, 15, 16, 17, 18, 19, 20, 21, 22, 23, 24, 25, 26, 27, 28, 29, 30, 31, 32, 33, 34] (by decide +kernel) (by decide +kernel)) (goodIn_sub (fun _ h => List.mem_cons_of_mem _ (List.mem_append_left _ (List.mem_append_right _ h))) (by decide +kernel))) (goodIn_sub (fun _ h => List.mem_cons_of_mem _ (List.mem_append_right _ h)) (by decide +kernel))
set_option maxRecDepth 20000 in
theorem gL_setConflict_X0_setConflict : GoodIn wsL_setConflict (wsV RL 24 RX0 yX0_setConflict wsX0_setConflict) := goodIn_app (goodIn_of _ (by decide +kernel)) ggL_setConflict_X0_setConflict
theorem dL_setConflict_0 : decode cL_setConflict 0 = .ok (.aload 4, 2) := by decide +kernel
theorem dL_setConflict_2 : decode cL_setConflict 2 = .ok (.iconst 0, 1) := by decide +kernel
theorem dL_setConflict_3 : decode cL_setConflict 3 = .ok (.aload_n 0, 1) := by decide +kernel
theorem dL_setConflict_4 : decode cL_setConflict 4 = .ok (.iload_n 1, 1) := by decide +kernel
theorem dL_setConflict_5 : decode cL_setConflict 5 = .ok (.iload_n 2, 1) := by decide +kernel
theorem dL_setConflict_6 : decode cL_setConflict 6 = .ok (.iload_n 3, 1) := by decide +kernel
theorem dL_setConflict_7 : decode cL_setConflict 7 = .ok (.invokevirtual 24, 3) := by decide +kernel
theorem dL_setConflict_10 : decode cL_setConflict 10 = .ok (.ifCond .eq 7, 3) := by decide +kernel
theorem dL_setConflict_13 : decode cL_setConflict 13 = .ok (.lconst 1, 1) := by decide +kernel
theorem dL_setConflict_14 : decode cL_setConflict 14 = .ok (.goto 4, 3) := by decide +kernel
theorem dL_setConflict_17 : decode cL_setConflict 17 = .ok (.lconst 0, 1) := by decide +kernel
theorem dL_setConflict_18 : decode cL_setConflict 18 = .ok (.lastore, 1) := by decide +kernel
theorem dL_setConflict_19 : decode cL_setConflict 19 = .ok (.goto 11, 3) := by decide +kernel
theorem dL_setConflict_22 : decode cL_setConflict 22 = .ok (.astore 5, 2) := by decide +kernel
theorem dL_setConflict_24 : decode cL_setConflict 24 = .ok (.iconst 1, 1) := by decide +kernel
theorem dL_setConflict_25 : decode cL_setConflict 25 = .ok (.ireturn, 1) := by decide +kernel
theorem dL_setConflict_26 : decode cL_setConflict 26 = .ok (.astore 5, 2) := by decide +kernel
theorem dL_setConflict_28 : decode cL_setConflict 28 = .ok (.iconst 2, 1) := by decide +kernel
theorem dL_setConflict_29 : decode cL_setConflict 29 = .ok (.ireturn, 1) := by decide +kernel
theorem dL_setConflict_30 : decode cL_setConflict 30 = .ok (.iconst 0, 1) := by decide +kernel
theorem dL_setConflict_31 : decode cL_setConflict 31 = .ok (.ireturn, 1) := by decide +kernel
set_option maxRecDepth 20000 in
theorem ggL_setCosts_X0_setCosts : GoodIn wsL_setCosts wsX0_setCosts := goodIn_ca (goodIn_r _ [6, 7, 8, 9, 10, 11, 12, 5, 13, 14, 15, 16, 17, 18, 19, 20, 21, 22, 23, 24, 25, 26, 27, 28, 29] (by decide +kernel) (by decide +kernel)) (goodIn_sub (fun _ h => List.mem_cons_of_mem _ (List.mem_append_right _ h)) (by decide +kernel))
set_option maxRecDepth 20000 in
theorem gL_setCosts_X0_setCosts : GoodIn wsL_setCosts (wsV RL 28 RX0 yX0_setCosts wsX0_setCosts) := goodIn_app (goodIn_of _ (by decide +kernel)) ggL_setCosts_X0_setCosts
theorem dL_setCosts_0 : decode cL_setCosts 0 = .ok (.aload_n 0, 1) := by decide +kernel
theorem dL_setCosts_1 : decode cL_setCosts 1 = .ok (.iload_n 1, 1) := by decide +kernel
theorem dL_setCosts_2 : decode cL_setCosts 2 = .ok (.iload_n 2, 1) := by decide +kernel
theorem dL_setCosts_3 : decode cL_setCosts 3 = .ok (.invokevirtual 28, 3) := by decide +kernel
theorem dL_setCosts_6 : decode cL_setCosts 6 = .ok (.goto 6, 3) := by decide +kernel
theorem dL_setCosts_9 : decode cL_setCosts 9 = .ok (.astore_n 3, 1) := by decide +kernel
theorem dL_setCosts_10 : decode cL_setCosts 10 = .ok (.iconst 1, 1) := by decide +kernel
theorem dL_setCosts_11 : decode cL_setCosts 11 = .ok (.ireturn, 1) := by decide +kernel
theorem dL_setCosts_12 : decode cL_setCosts 12 = .ok (.iconst 0, 1) := by decide +kernel
theorem dL_setCosts_13 : decode cL_setCosts 13 = .ok (.ireturn, 1) := by decide +kernel
set_option maxRecDepth 20000 in
theorem ggL_setSupport_X0_setSupport : GoodIn wsL_setSupport wsX0_setSupport := goodIn_ca (goodIn_r _ [6, 7, 8, 9, 10, 11, 12, 13, 14, 15, 16, 17, 18, 19, 20, 21, 22, 23, 24, 25] (by decide +kernel) (by decide +kernel)) (goodIn_sub (fun _ h => List.mem_cons_of_mem _ (List.mem_append_right _ h)) (by decide +kernel))
set_option maxRecDepth 20000 in
theorem gL_setSupport_X0_setSupport : GoodIn wsL_setSupport (wsV RL 32 RX0 yX0_setSupport wsX0_setSupport) := goodIn_app (goodIn_of _ (by decide +kernel)) ggL_setSupport_X0_setSupport
theorem dL_setSupport_0 : decode cL_setSupport 0 = .ok (.aload_n 2, 1) := by decide +kernel
theorem dL_setSupport_1 : decode cL_setSupport 1 = .ok (.iconst 0, 1) := by decide +kernel
theorem dL_setSupport_2 : decode cL_setSupport 2 = .ok (.aload_n 0, 1) := by decide +kernel
theorem dL_setSupport_3 : decode cL_setSupport 3 = .ok (.iload_n 1, 1) := by decide +kernel
theorem dL_setSupport_4 : decode cL_setSupport 4 = .ok (.invokevirtual 32, 3) := by decide +kernel
theorem dL_setSupport_7 : decode cL_setSupport 7 = .ok (.i2l, 1) := by decide +kernel
theorem dL_setSupport_8 : decode cL_setSupport 8 = .ok (.lastore, 1) := by decide +kernel
theorem dL_setSupport_9 : decode cL_setSupport 9 = .ok (.goto 6, 3) := by decide +kernel
theorem dL_setSupport_12 : decode cL_setSupport 12 = .ok (.astore_n 3, 1) := by decide +kernel
theorem dL_setSupport_13 : decode cL_setSupport 13 = .ok (.iconst 1, 1) := by decide +kernel
theorem dL_setSupport_14 : decode cL_setSupport 14 = .ok (.ireturn, 1) := by decide +kernel
theorem dL_setSupport_15 : decode cL_setSupport 15 = .ok (.iconst 0, 1) := by decide +kernel
theorem dL_setSupport_16 : decode cL_setSupport 16 = .ok (.ireturn, 1) := by decide +kernel
set_option maxRecDepth 20000 in
theorem ggL_setPeriod_X0_setPeriod : GoodIn wsL_setPeriod wsX0_setPeriod := goodIn_ca (goodIn_r _ [6, 7, 8, 9, 10, 11, 12, 13, 14, 15, 16, 17, 18, 19, 20, 21, 22, 23, 24, 25] (by decide +kernel) (by decide +kernel)) (goodIn_sub (fun _ h => List.mem_cons_of_mem _ (List.mem_append_right _ h)) (by decide +kernel))
set_option maxRecDepth 20000 in
theorem gL_setPeriod_X0_setPeriod : GoodIn wsL_setPeriod (wsV RL 36 RX0 yX0_setPeriod wsX0_setPeriod) := goodIn_app (goodIn_of _ (by decide +kernel)) ggL_setPeriod_X0_setPeriod
theorem dL_setPeriod_0 : decode cL_setPeriod 0 = .ok (.aload_n 2, 1) := by decide +kernel
theorem dL_setPeriod_1 : decode cL_setPeriod 1 = .ok (.iconst 0, 1) := by decide +kernel
theorem dL_setPeriod_2 : decode cL_setPeriod 2 = .ok (.aload_n 0, 1) := by decide +kernel
theorem dL_setPeriod_3 : decode cL_setPeriod 3 = .ok (.iload_n 1, 1) := by decide +kernel
theorem dL_setPeriod_4 : decode cL_setPeriod 4 = .ok (.invokevirtual 36, 3) := by decide +kernel
theorem dL_setPeriod_7 : decode cL_setPeriod 7 = .ok (.i2l, 1) := by decide +kernel
theorem dL_setPeriod_8 : decode cL_setPeriod 8 = .ok (.lastore, 1) := by decide +kernel
theorem dL_setPeriod_9 : decode cL_setPeriod 9 = .ok (.goto 6, 3) := by decide +kernel
theorem dL_setPeriod_12 : decode cL_setPeriod 12 = .ok (.astore_n 3, 1) := by decide +kernel
theorem dL_setPeriod_13 : decode cL_setPeriod 13 = .ok (.iconst 1, 1) := by decide +kernel
theorem dL_setPeriod_14 : decode cL_setPeriod 14 = .ok (.ireturn, 1) := by decide +kernel
theorem dL_setPeriod_15 : decode cL_setPeriod 15 = .ok (.iconst 0, 1) := by decide +kernel
theorem dL_setPeriod_16 : decode cL_setPeriod 16 = .ok (.ireturn, 1) := by decide +kernel
set_option maxRecDepth 20000 in
theorem ggL_review_X0_review : GoodIn wsL_review wsX0_review := goodIn_ca (goodIn_ca (goodIn_r _ [7, 8, 9, 10, 11, 12, 13, 14, 15, 16, 6, 17, 18, 19, 20, 21, 22, 23, 24, 25, 26, 27, 28, 29, 30, 31, 32, 33, 34, 35, 36, 37, 38, 39, 40, 41, 42] (by decide +kernel) (by decide +kernel)) (goodIn_sub (fun _ h => List.mem_cons_of_mem _ (List.mem_append_left _ (List.mem_append_right _ h))) (by decide +kernel))) (goodIn_sub (fun _ h => List.mem_cons_of_mem _ (List.mem_append_right _ h)) (by decide +kernel))
set_option maxRecDepth 20000 in
theorem gL_review_X0_review : GoodIn wsL_review (wsV RL 39 RX0 yX0_review wsX0_review) := goodIn_app (goodIn_of _ (by decide +kernel)) ggL_review_X0_review
theorem dL_review_0 : decode cL_review 0 = .ok (.aload_n 3, 1) := by decide +kernel
theorem dL_review_1 : decode cL_review 1 = .ok (.iconst 0, 1) := by decide +kernel
theorem dL_review_2 : decode cL_review 2 = .ok (.aload_n 0, 1) := by decide +kernel
theorem dL_review_3 : decode cL_review 3 = .ok (.iload_n 1, 1) := by decide +kernel
theorem dL_review_4 : decode cL_review 4 = .ok (.iload_n 2, 1) := by decide +kernel
theorem dL_review_5 : decode cL_review 5 = .ok (.invokevirtual 39, 3) := by decide +kernel
theorem dL_review_8 : decode cL_review 8 = .ok (.i2l, 1) := by decide +kernel
theorem dL_review_9 : decode cL_review 9 = .ok (.lastore, 1) := by decide +kernel
theorem dL_review_10 : decode cL_review 10 = .ok (.goto 11, 3) := by decide +kernel
theorem dL_review_13 : decode cL_review 13 = .ok (.astore 4, 2) := by decide +kernel
theorem dL_review_15 : decode cL_review 15 = .ok (.iconst 1, 1) := by decide +kernel
theorem dL_review_16 : decode cL_review 16 = .ok (.ireturn, 1) := by decide +kernel
theorem dL_review_17 : decode cL_review 17 = .ok (.astore 4, 2) := by decide +kernel
theorem dL_review_19 : decode cL_review 19 = .ok (.iconst 2, 1) := by decide +kernel
theorem dL_review_20 : decode cL_review 20 = .ok (.ireturn, 1) := by decide +kernel
theorem dL_review_21 : decode cL_review 21 = .ok (.iconst 0, 1) := by decide +kernel
theorem dL_review_22 : decode cL_review 22 = .ok (.ireturn, 1) := by decide +kernel
set_option maxRecDepth 20000 in
theorem ggL_nextQuarter_X0_nextQuarter : GoodIn wsL_nextQuarter wsX0_nextQuarter := goodIn_ca (goodIn_r _ [6, 7, 8, 9, 10, 11, 12, 13, 5, 14, 15, 16, 17, 18, 19, 20, 21, 22, 23, 24, 25, 26, 27, 28, 29, 30, 31, 32, 33, 34, 35, 36, 37, 38, 39, 40, 41, 42, 43, 44, 45] (by decide +kernel) (by decide +kernel)) (goodIn_sub (fun _ h => List.mem_cons_of_mem _ (List.mem_append_right _ h)) (by decide +kernel))
set_option maxRecDepth 20000 in
theorem gL_nextQuarter_X0_nextQuarter : GoodIn wsL_nextQuarter (wsV RL 44 RX0 yX0_nextQuarter wsX0_nextQuarter) := goodIn_app (goodIn_of _ (by decide +kernel)) ggL_nextQuarter_X0_nextQuarter
theorem dL_nextQuarter_0 : decode cL_nextQuarter 0 = .ok (.aload_n 1, 1) := by decide +kernel
theorem dL_nextQuarter_1 : decode cL_nextQuarter 1 = .ok (.iconst 0, 1) := by decide +kernel
theorem dL_nextQuarter_2 : decode cL_nextQuarter 2 = .ok (.aload_n 0, 1) := by decide +kernel
theorem dL_nextQuarter_3 : decode cL_nextQuarter 3 = .ok (.invokevirtual 44, 3) := by decide +kernel
theorem dL_nextQuarter_6 : decode cL_nextQuarter 6 = .ok (.i2l, 1) := by decide +kernel
theorem dL_nextQuarter_7 : decode cL_nextQuarter 7 = .ok (.lastore, 1) := by decide +kernel
theorem dL_nextQuarter_8 : decode cL_nextQuarter 8 = .ok (.goto 6, 3) := by decide +kernel
theorem dL_nextQuarter_11 : decode cL_nextQuarter 11 = .ok (.astore_n 2, 1) := by decide +kernel
theorem dL_nextQuarter_12 : decode cL_nextQuarter 12 = .ok (.iconst 1, 1) := by decide +kernel
theorem dL_nextQuarter_13 : decode cL_nextQuarter 13 = .ok (.ireturn, 1) := by decide +kernel
theorem dL_nextQuarter_14 : decode cL_nextQuarter 14 = .ok (.iconst 0, 1) := by decide +kernel
theorem dL_nextQuarter_15 : decode cL_nextQuarter 15 = .ok (.ireturn, 1) := by decide +kernel
set_option maxRecDepth 20000 in
theorem ggL_mineBest_X0_mineBest : GoodIn wsL_mineBest wsX0_mineBest := goodIn_ca (goodIn_r _ [6, 7, 8, 9, 10, 11, 12, 13, 14, 15, 5, 16, 17, 18, 19, 20, 21, 22, 23, 24, 25, 26, 27, 28, 29, 30, 31, 32, 33, 34, 35, 36, 37, 38, 39, 40, 41, 42, 43, 44, 45, 46, 47, 48, 49, 50, 51, 52, 53, 54, 55, 56, 57, 58, 59, 60, 61, 62, 63, 64, 65, 66, 67, 68, 69, 70, 71, 72, 73, 74, 75, 76, 77, 78, 79, 80, 81, 82, 83, 84, 85, 86, 87, 88, 89, 90, 91, 92, 93, 94, 95, 96, 97, 98, 99, 100, 101, 102, 103, 104, 105, 106, 107, 108, 109, 110, 111, 112, 113, 114, 115, 116, 117, 118] (by decide +kernel) (by decide +kernel)) (goodIn_sub (fun _ h => List.mem_cons_of_mem _ (List.mem_append_right _ h)) (by decide +kernel))
set_option maxRecDepth 20000 in
theorem gL_mineBest_X0_mineBest : GoodIn wsL_mineBest (wsV RL 48 RX0 yX0_mineBest wsX0_mineBest) := goodIn_app (goodIn_of _ (by decide +kernel)) ggL_mineBest_X0_mineBest
theorem dL_mineBest_0 : decode cL_mineBest 0 = .ok (.aload_n 1, 1) := by decide +kernel
theorem dL_mineBest_1 : decode cL_mineBest 1 = .ok (.iconst 0, 1) := by decide +kernel
theorem dL_mineBest_2 : decode cL_mineBest 2 = .ok (.aload_n 0, 1) := by decide +kernel
theorem dL_mineBest_3 : decode cL_mineBest 3 = .ok (.invokevirtual 48, 3) := by decide +kernel
theorem dL_mineBest_6 : decode cL_mineBest 6 = .ok (.i2l, 1) := by decide +kernel
theorem dL_mineBest_7 : decode cL_mineBest 7 = .ok (.lastore, 1) := by decide +kernel
theorem dL_mineBest_8 : decode cL_mineBest 8 = .ok (.goto 6, 3) := by decide +kernel
theorem dL_mineBest_11 : decode cL_mineBest 11 = .ok (.astore_n 2, 1) := by decide +kernel
theorem dL_mineBest_12 : decode cL_mineBest 12 = .ok (.iconst 1, 1) := by decide +kernel
theorem dL_mineBest_13 : decode cL_mineBest 13 = .ok (.ireturn, 1) := by decide +kernel
theorem dL_mineBest_14 : decode cL_mineBest 14 = .ok (.iconst 0, 1) := by decide +kernel
theorem dL_mineBest_15 : decode cL_mineBest 15 = .ok (.ireturn, 1) := by decide +kernel
set_option maxRecDepth 20000 in
theorem ggL_permissions_X0_permissions : GoodIn wsL_permissions wsX0_permissions := goodIn_ca (goodIn_r _ [6, 7, 8, 9, 10, 11, 5, 12, 13, 14, 15, 16, 17, 18, 19, 20, 21, 22, 23, 24, 25, 26, 27, 28] (by decide +kernel) (by decide +kernel)) (goodIn_sub (fun _ h => List.mem_cons_of_mem _ (List.mem_append_right _ h)) (by decide +kernel))
set_option maxRecDepth 20000 in
theorem gL_permissions_X0_permissions : GoodIn wsL_permissions (wsV RL 51 RX0 yX0_permissions wsX0_permissions) := goodIn_app (goodIn_of _ (by decide +kernel)) ggL_permissions_X0_permissions
theorem dL_permissions_0 : decode cL_permissions 0 = .ok (.aload_n 2, 1) := by decide +kernel
theorem dL_permissions_1 : decode cL_permissions 1 = .ok (.iconst 0, 1) := by decide +kernel
theorem dL_permissions_2 : decode cL_permissions 2 = .ok (.aload_n 0, 1) := by decide +kernel
theorem dL_permissions_3 : decode cL_permissions 3 = .ok (.iload_n 1, 1) := by decide +kernel
theorem dL_permissions_4 : decode cL_permissions 4 = .ok (.invokevirtual 51, 3) := by decide +kernel
theorem dL_permissions_7 : decode cL_permissions 7 = .ok (.i2l, 1) := by decide +kernel
theorem dL_permissions_8 : decode cL_permissions 8 = .ok (.lastore, 1) := by decide +kernel
theorem dL_permissions_9 : decode cL_permissions 9 = .ok (.goto 6, 3) := by decide +kernel
theorem dL_permissions_12 : decode cL_permissions 12 = .ok (.astore_n 3, 1) := by decide +kernel
theorem dL_permissions_13 : decode cL_permissions 13 = .ok (.iconst 1, 1) := by decide +kernel
theorem dL_permissions_14 : decode cL_permissions 14 = .ok (.ireturn, 1) := by decide +kernel
theorem dL_permissions_15 : decode cL_permissions 15 = .ok (.iconst 0, 1) := by decide +kernel
theorem dL_permissions_16 : decode cL_permissions 16 = .ok (.ireturn, 1) := by decide +kernel
set_option maxRecDepth 20000 in
theorem ggL_violations_X0_violations : GoodIn wsL_violations wsX0_violations := goodIn_ca (goodIn_r _ [6, 7, 8, 9, 10, 11, 12, 5, 13, 14, 15, 16, 17, 18, 19, 20, 21, 22, 23, 24, 25, 26, 27, 28, 29, 30, 31, 32, 33, 34, 35, 36, 37, 38, 39] (by decide +kernel) (by decide +kernel)) (goodIn_sub (fun _ h => List.mem_cons_of_mem _ (List.mem_append_right _ h)) (by decide +kernel))
set_option maxRecDepth 20000 in
theorem gL_violations_X0_violations : GoodIn wsL_violations (wsV RL 54 RX0 yX0_violations wsX0_violations) := goodIn_app (goodIn_of _ (by decide +kernel)) ggL_violations_X0_violations
theorem dL_violations_0 : decode cL_violations 0 = .ok (.aload_n 2, 1) := by decide +kernel
theorem dL_violations_1 : decode cL_violations 1 = .ok (.iconst 0, 1) := by decide +kernel
theorem dL_violations_2 : decode cL_violations 2 = .ok (.aload_n 0, 1) := by decide +kernel
theorem dL_violations_3 : decode cL_violations 3 = .ok (.iload_n 1, 1) := by decide +kernel
theorem dL_violations_4 : decode cL_violations 4 = .ok (.invokevirtual 54, 3) := by decide +kernel
theorem dL_violations_7 : decode cL_violations 7 = .ok (.i2l, 1) := by decide +kernel
theorem dL_violations_8 : decode cL_violations 8 = .ok (.lastore, 1) := by decide +kernel
theorem dL_violations_9 : decode cL_violations 9 = .ok (.goto 6, 3) := by decide +kernel
theorem dL_violations_12 : decode cL_violations 12 = .ok (.astore_n 3, 1) := by decide +kernel
theorem dL_violations_13 : decode cL_violations 13 = .ok (.iconst 1, 1) := by decide +kernel
theorem dL_violations_14 : decode cL_violations 14 = .ok (.ireturn, 1) := by decide +kernel
theorem dL_violations_15 : decode cL_violations 15 = .ok (.iconst 0, 1) := by decide +kernel
theorem dL_violations_16 : decode cL_violations 16 = .ok (.ireturn, 1) := by decide +kernel
set_option maxRecDepth 20000 in
theorem ggL_due_X0_due : GoodIn wsL_due wsX0_due := goodIn_ca (goodIn_r _ [6, 7, 8, 9, 10, 11, 5, 12, 13, 14, 15, 16, 17, 18, 19, 20, 21, 22, 23, 24, 25, 26, 27, 28, 29, 30, 31, 32, 33, 34, 35, 36, 37, 38, 39, 40, 41] (by decide +kernel) (by decide +kernel)) (goodIn_sub (fun _ h => List.mem_cons_of_mem _ (List.mem_append_right _ h)) (by decide +kernel))
set_option maxRecDepth 20000 in
theorem gL_due_X0_due : GoodIn wsL_due (wsV RL 57 RX0 yX0_due wsX0_due) := goodIn_app (goodIn_of _ (by decide +kernel)) ggL_due_X0_due
theorem dL_due_0 : decode cL_due 0 = .ok (.aload_n 2, 1) := by decide +kernel
theorem dL_due_1 : decode cL_due 1 = .ok (.iconst 0, 1) := by decide +kernel
theorem dL_due_2 : decode cL_due 2 = .ok (.aload_n 0, 1) := by decide +kernel
theorem dL_due_3 : decode cL_due 3 = .ok (.iload_n 1, 1) := by decide +kernel
theorem dL_due_4 : decode cL_due 4 = .ok (.invokevirtual 57, 3) := by decide +kernel
theorem dL_due_7 : decode cL_due 7 = .ok (.i2l, 1) := by decide +kernel
theorem dL_due_8 : decode cL_due 8 = .ok (.lastore, 1) := by decide +kernel
theorem dL_due_9 : decode cL_due 9 = .ok (.goto 6, 3) := by decide +kernel
theorem dL_due_12 : decode cL_due 12 = .ok (.astore_n 3, 1) := by decide +kernel
theorem dL_due_13 : decode cL_due 13 = .ok (.iconst 1, 1) := by decide +kernel
theorem dL_due_14 : decode cL_due 14 = .ok (.ireturn, 1) := by decide +kernel
theorem dL_due_15 : decode cL_due 15 = .ok (.iconst 0, 1) := by decide +kernel
theorem dL_due_16 : decode cL_due 16 = .ok (.ireturn, 1) := by decide +kernel
set_option maxRecDepth 20000 in
theorem ggL_candidate_X0_candidate : GoodIn wsL_candidate wsX0_candidate := goodIn_ca (goodIn_r _ [6, 7, 8, 9, 10, 11, 12, 13, 5, 14, 15, 16, 17, 18, 19, 20, 21, 22, 23, 24, 25, 26, 27, 28, 29, 30, 31, 32, 33, 34, 35, 36, 37, 38, 39, 40, 41, 42, 43, 44, 45, 46, 47, 48, 49, 50, 51, 52, 53, 54, 55, 56, 57, 58, 59, 60, 61, 62, 63, 64, 65, 66, 67, 68, 69, 70, 71, 72, 73, 74, 75, 76, 77, 78, 79, 80] (by decide +kernel) (by decide +kernel)) (goodIn_sub (fun _ h => List.mem_cons_of_mem _ (List.mem_append_right _ h)) (by decide +kernel))
set_option maxRecDepth 20000 in
theorem gL_candidate_X0_candidate : GoodIn wsL_candidate (wsV RL 60 RX0 yX0_candidate wsX0_candidate) := goodIn_app (goodIn_of _ (by decide +kernel)) ggL_candidate_X0_candidate
theorem dL_candidate_0 : decode cL_candidate 0 = .ok (.aload_n 2, 1) := by decide +kernel
theorem dL_candidate_1 : decode cL_candidate 1 = .ok (.iconst 0, 1) := by decide +kernel
theorem dL_candidate_2 : decode cL_candidate 2 = .ok (.aload_n 0, 1) := by decide +kernel
theorem dL_candidate_3 : decode cL_candidate 3 = .ok (.iload_n 1, 1) := by decide +kernel
theorem dL_candidate_4 : decode cL_candidate 4 = .ok (.invokevirtual 60, 3) := by decide +kernel
theorem dL_candidate_7 : decode cL_candidate 7 = .ok (.i2l, 1) := by decide +kernel
theorem dL_candidate_8 : decode cL_candidate 8 = .ok (.lastore, 1) := by decide +kernel
theorem dL_candidate_9 : decode cL_candidate 9 = .ok (.goto 6, 3) := by decide +kernel
theorem dL_candidate_12 : decode cL_candidate 12 = .ok (.astore_n 3, 1) := by decide +kernel
theorem dL_candidate_13 : decode cL_candidate 13 = .ok (.iconst 1, 1) := by decide +kernel
theorem dL_candidate_14 : decode cL_candidate 14 = .ok (.ireturn, 1) := by decide +kernel
theorem dL_candidate_15 : decode cL_candidate 15 = .ok (.iconst 0, 1) := by decide +kernel
theorem dL_candidate_16 : decode cL_candidate 16 = .ok (.ireturn, 1) := by decide +kernel
set_option maxRecDepth 20000 in
theorem ggL_holders_X0_holders : GoodIn wsL_holders wsX0_holders := goodIn_ca (goodIn_r _ [6, 7, 8, 9, 10, 5, 11, 12, 13, 14, 15, 16, 17, 18, 19, 20, 21, 22, 23, 24, 25, 26, 27, 28, 29, 30, 31, 32, 33, 34, 35, 36] (by decide +kernel) (by decide +kernel)) (goodIn_sub (fun _ h => List.mem_cons_of_mem _ (List.mem_append_right _ h)) (by decide +kernel))
set_option maxRecDepth 20000 in
theorem gL_holders_X0_holders : GoodIn wsL_holders (wsV RL 63 RX0 yX0_holders wsX0_holders) := goodIn_app (goodIn_of _ (by decide +kernel)) ggL_holders_X0_holders
theorem dL_holders_0 : decode cL_holders 0 = .ok (.aload_n 2, 1) := by decide +kernel
theorem dL_holders_1 : decode cL_holders 1 = .ok (.iconst 0, 1) := by decide +kernel
theorem dL_holders_2 : decode cL_holders 2 = .ok (.aload_n 0, 1) := by decide +kernel
theorem dL_holders_3 : decode cL_holders 3 = .ok (.iload_n 1, 1) := by decide +kernel
theorem dL_holders_4 : decode cL_holders 4 = .ok (.invokevirtual 63, 3) := by decide +kernel
theorem dL_holders_7 : decode cL_holders 7 = .ok (.i2l, 1) := by decide +kernel
theorem dL_holders_8 : decode cL_holders 8 = .ok (.lastore, 1) := by decide +kernel
theorem dL_holders_9 : decode cL_holders 9 = .ok (.goto 6, 3) := by decide +kernel
theorem dL_holders_12 : decode cL_holders 12 = .ok (.astore_n 3, 1) := by decide +kernel
theorem dL_holders_13 : decode cL_holders 13 = .ok (.iconst 1, 1) := by decide +kernel
theorem dL_holders_14 : decode cL_holders 14 = .ok (.ireturn, 1) := by decide +kernel
theorem dL_holders_15 : decode cL_holders 15 = .ok (.iconst 0, 1) := by decide +kernel
theorem dL_holders_16 : decode cL_holders 16 = .ok (.ireturn, 1) := by decide +kernel
set_option maxRecDepth 20000 in
theorem ggL_costOf_X0_costOf : GoodIn wsL_costOf wsX0_costOf := goodIn_ca (goodIn_ca (goodIn_r _ [7, 8, 9, 10, 11, 12, 13, 14, 15, 6, 16, 17, 18, 19, 20, 21, 22, 23, 24, 25, 26, 27, 28, 29, 30, 31, 32, 33, 34, 35, 36, 37, 38, 39, 40, 41, 42, 43, 44, 45, 46, 47, 48, 49, 50, 51, 52, 53, 54, 55, 56, 57, 58, 59, 60, 61, 62, 63, 64, 65, 66, 67, 68, 69, 70, 71, 72, 73, 74, 75, 76, 77, 78, 79, 80, 81, 82, 83, 84, 85, 86, 87, 88, 89, 90, 91, 92, 93, 94, 95, 96, 97, 98, 99, 100, 101] (by decide +kernel) (by decide +kernel)) (goodIn_sub (fun _ h => List.mem_cons_of_mem _ (List.mem_append_left _ (List.mem_append_right _ h))) (by decide +kernel))) (goodIn_sub (fun _ h => List.mem_cons_of_mem _ (List.mem_append_right _ h)) (by decide +kernel))
set_option maxRecDepth 20000 in
theorem gL_costOf_X0_costOf : GoodIn wsL_costOf (wsV RL 66 RX0 yX0_costOf wsX0_costOf) := goodIn_app (goodIn_of _ (by decide +kernel)) ggL_costOf_X0_costOf
theorem dL_costOf_0 : decode cL_costOf 0 = .ok (.aload_n 2, 1) := by decide +kernel
theorem dL_costOf_1 : decode cL_costOf 1 = .ok (.iconst 0, 1) := by decide +kernel
theorem dL_costOf_2 : decode cL_costOf 2 = .ok (.aload_n 0, 1) := by decide +kernel
theorem dL_costOf_3 : decode cL_costOf 3 = .ok (.iload_n 1, 1) := by decide +kernel
theorem dL_costOf_4 : decode cL_costOf 4 = .ok (.invokevirtual 66, 3) := by decide +kernel
theorem dL_costOf_7 : decode cL_costOf 7 = .ok (.i2l, 1) := by decide +kernel
theorem dL_costOf_8 : decode cL_costOf 8 = .ok (.lastore, 1) := by decide +kernel
theorem dL_costOf_9 : decode cL_costOf 9 = .ok (.goto 9, 3) := by decide +kernel
theorem dL_costOf_12 : decode cL_costOf 12 = .ok (.astore_n 3, 1) := by decide +kernel
theorem dL_costOf_13 : decode cL_costOf 13 = .ok (.iconst 1, 1) := by decide +kernel
theorem dL_costOf_14 : decode cL_costOf 14 = .ok (.ireturn, 1) := by decide +kernel
theorem dL_costOf_15 : decode cL_costOf 15 = .ok (.astore_n 3, 1) := by decide +kernel
theorem dL_costOf_16 : decode cL_costOf 16 = .ok (.iconst 2, 1) := by decide +kernel
theorem dL_costOf_17 : decode cL_costOf 17 = .ok (.ireturn, 1) := by decide +kernel
theorem dL_costOf_18 : decode cL_costOf 18 = .ok (.iconst 0, 1) := by decide +kernel
theorem dL_costOf_19 : decode cL_costOf 19 = .ok (.ireturn, 1) := by decide +kernel
set_option maxRecDepth 20000 in
theorem ggL_leastCost_X0_leastCost : GoodIn wsL_leastCost wsX0_leastCost := goodIn_ca (goodIn_r _ [6, 7, 8, 9, 10, 11, 12, 5, 13, 14, 15, 16, 17, 18, 19, 20, 21, 22, 23, 24, 25, 26, 27, 28, 29, 30, 31, 32, 33, 34, 35, 36, 37, 38, 39, 40, 41, 42, 43, 44, 45, 46, 47, 48, 49, 50, 51, 52, 53, 54, 55, 56, 57, 58, 59, 60, 61, 62, 63, 64, 65, 66, 67, 68, 69, 70, 71, 72, 73, 74, 75, 76, 77, 78, 79, 80, 81, 82, 83, 84, 85, 86, 87, 88, 89, 90, 91, 92, 93, 94, 95, 96, 97, 98, 99, 100, 101, 102, 103, 104, 105, 106, 107, 108, 109, 110, 111, 112, 113, 114, 115, 116] (by decide +kernel) (by decide +kernel)) (goodIn_sub (fun _ h => List.mem_cons_of_mem _ (List.mem_append_right _ h)) (by decide +kernel))
set_option maxRecDepth 20000 in
theorem gL_leastCost_X0_leastCost : GoodIn wsL_leastCost (wsV RL 69 RX0 yX0_leastCost wsX0_leastCost) := goodIn_app (goodIn_of _ (by decide +kernel)) ggL_leastCost_X0_leastCost
theorem dL_leastCost_0 : decode cL_leastCost 0 = .ok (.aload_n 1, 1) := by decide +kernel
theorem dL_leastCost_1 : decode cL_leastCost 1 = .ok (.iconst 0, 1) := by decide +kernel
theorem dL_leastCost_2 : decode cL_leastCost 2 = .ok (.aload_n 0, 1) := by decide +kernel
theorem dL_leastCost_3 : decode cL_leastCost 3 = .ok (.invokevirtual 69, 3) := by decide +kernel
theorem dL_leastCost_6 : decode cL_leastCost 6 = .ok (.i2l, 1) := by decide +kernel
theorem dL_leastCost_7 : decode cL_leastCost 7 = .ok (.lastore, 1) := by decide +kernel
theorem dL_leastCost_8 : decode cL_leastCost 8 = .ok (.goto 6, 3) := by decide +kernel
theorem dL_leastCost_11 : decode cL_leastCost 11 = .ok (.astore_n 2, 1) := by decide +kernel
theorem dL_leastCost_12 : decode cL_leastCost 12 = .ok (.iconst 1, 1) := by decide +kernel
theorem dL_leastCost_13 : decode cL_leastCost 13 = .ok (.ireturn, 1) := by decide +kernel
theorem dL_leastCost_14 : decode cL_leastCost 14 = .ok (.iconst 0, 1) := by decide +kernel
theorem dL_leastCost_15 : decode cL_leastCost 15 = .ok (.ireturn, 1) := by decide +kernel
set_option maxRecDepth 20000 in
theorem ggL_role_X0_role : GoodIn wsL_role wsX0_role := goodIn_ca (goodIn_r _ [6, 7, 8, 9, 10, 11, 12, 13, 14, 15, 16, 17, 18, 19, 20, 21, 22, 23, 24, 25, 26] (by decide +kernel) (by decide +kernel)) (goodIn_sub (fun _ h => List.mem_cons_of_mem _ (List.mem_append_right _ h)) (by decide +kernel))
set_option maxRecDepth 20000 in
theorem gL_role_X0_role : GoodIn wsL_role (wsV RL 72 RX0 yX0_role wsX0_role) := goodIn_app (goodIn_of _ (by decide +kernel)) ggL_role_X0_role
theorem dL_role_0 : decode cL_role 0 = .ok (.aload_n 2, 1) := by decide +kernel
theorem dL_role_1 : decode cL_role 1 = .ok (.iconst 0, 1) := by decide +kernel
theorem dL_role_2 : decode cL_role 2 = .ok (.aload_n 0, 1) := by decide +kernel
theorem dL_role_3 : decode cL_role 3 = .ok (.iload_n 1, 1) := by decide +kernel
theorem dL_role_4 : decode cL_role 4 = .ok (.invokevirtual 72, 3) := by decide +kernel
theorem dL_role_7 : decode cL_role 7 = .ok (.i2l, 1) := by decide +kernel
theorem dL_role_8 : decode cL_role 8 = .ok (.lastore, 1) := by decide +kernel
theorem dL_role_9 : decode cL_role 9 = .ok (.goto 6, 3) := by decide +kernel
theorem dL_role_12 : decode cL_role 12 = .ok (.astore_n 3, 1) := by decide +kernel
theorem dL_role_13 : decode cL_role 13 = .ok (.iconst 1, 1) := by decide +kernel
theorem dL_role_14 : decode cL_role 14 = .ok (.ireturn, 1) := by decide +kernel
theorem dL_role_15 : decode cL_role 15 = .ok (.iconst 0, 1) := by decide +kernel
theorem dL_role_16 : decode cL_role 16 = .ok (.ireturn, 1) := by decide +kernel
set_option maxRecDepth 20000 in
theorem ggL_rolesOf_X0_rolesOf : GoodIn wsL_rolesOf wsX0_rolesOf := goodIn_ca (goodIn_r _ [6, 7, 8, 9, 10, 11, 12, 5, 13, 14, 15, 16, 17, 18, 19, 20, 21, 22, 23, 24, 25, 26, 27, 28, 29, 30, 31, 32, 33, 34] (by decide +kernel) (by decide +kernel)) (goodIn_sub (fun _ h => List.mem_cons_of_mem _ (List.mem_append_right _ h)) (by decide +kernel))
set_option maxRecDepth 20000 in
theorem gL_rolesOf_X0_rolesOf : GoodIn wsL_rolesOf (wsV RL 75 RX0 yX0_rolesOf wsX0_rolesOf) := goodIn_app (goodIn_of _ (by decide +kernel)) ggL_rolesOf_X0_rolesOf
theorem dL_rolesOf_0 : decode cL_rolesOf 0 = .ok (.aload_n 2, 1) := by decide +kernel
theorem dL_rolesOf_1 : decode cL_rolesOf 1 = .ok (.iconst 0, 1) := by decide +kernel
theorem dL_rolesOf_2 : decode cL_rolesOf 2 = .ok (.aload_n 0, 1) := by decide +kernel
theorem dL_rolesOf_3 : decode cL_rolesOf 3 = .ok (.iload_n 1, 1) := by decide +kernel
theorem dL_rolesOf_4 : decode cL_rolesOf 4 = .ok (.invokevirtual 75, 3) := by decide +kernel
theorem dL_rolesOf_7 : decode cL_rolesOf 7 = .ok (.i2l, 1) := by decide +kernel
theorem dL_rolesOf_8 : decode cL_rolesOf 8 = .ok (.lastore, 1) := by decide +kernel
theorem dL_rolesOf_9 : decode cL_rolesOf 9 = .ok (.goto 6, 3) := by decide +kernel
theorem dL_rolesOf_12 : decode cL_rolesOf 12 = .ok (.astore_n 3, 1) := by decide +kernel
theorem dL_rolesOf_13 : decode cL_rolesOf 13 = .ok (.iconst 1, 1) := by decide +kernel
theorem dL_rolesOf_14 : decode cL_rolesOf 14 = .ok (.ireturn, 1) := by decide +kernel
theorem dL_rolesOf_15 : decode cL_rolesOf 15 = .ok (.iconst 0, 1) := by decide +kernel
theorem dL_rolesOf_16 : decode cL_rolesOf 16 = .ok (.ireturn, 1) := by decide +kernel
set_option maxRecDepth 20000 in
theorem ggL_byRoles_X0_byRoles : GoodIn wsL_byRoles wsX0_byRoles := goodIn_ca (goodIn_r _ [6, 7, 8, 9, 10, 5, 11, 12, 13, 14, 15, 16, 17, 18, 19, 20, 21, 22, 23, 24, 25, 26, 27, 28, 29, 30, 31, 32, 33, 34, 35, 36, 37, 38] (by decide +kernel) (by decide +kernel)) (goodIn_sub (fun _ h => List.mem_cons_of_mem _ (List.mem_append_right _ h)) (by decide +kernel))
set_option maxRecDepth 20000 in
theorem gL_byRoles_X0_byRoles : GoodIn wsL_byRoles (wsV RL 78 RX0 yX0_byRoles wsX0_byRoles) := goodIn_app (goodIn_of _ (by decide +kernel)) ggL_byRoles_X0_byRoles
theorem dL_byRoles_0 : decode cL_byRoles 0 = .ok (.aload_n 2, 1) := by decide +kernel
theorem dL_byRoles_1 : decode cL_byRoles 1 = .ok (.iconst 0, 1) := by decide +kernel
theorem dL_byRoles_2 : decode cL_byRoles 2 = .ok (.aload_n 0, 1) := by decide +kernel
theorem dL_byRoles_3 : decode cL_byRoles 3 = .ok (.iload_n 1, 1) := by decide +kernel
theorem dL_byRoles_4 : decode cL_byRoles 4 = .ok (.invokevirtual 78, 3) := by decide +kernel
theorem dL_byRoles_7 : decode cL_byRoles 7 = .ok (.i2l, 1) := by decide +kernel
theorem dL_byRoles_8 : decode cL_byRoles 8 = .ok (.lastore, 1) := by decide +kernel
theorem dL_byRoles_9 : decode cL_byRoles 9 = .ok (.goto 6, 3) := by decide +kernel
theorem dL_byRoles_12 : decode cL_byRoles 12 = .ok (.astore_n 3, 1) := by decide +kernel
theorem dL_byRoles_13 : decode cL_byRoles 13 = .ok (.iconst 1, 1) := by decide +kernel
theorem dL_byRoles_14 : decode cL_byRoles 14 = .ok (.ireturn, 1) := by decide +kernel
theorem dL_byRoles_15 : decode cL_byRoles 15 = .ok (.iconst 0, 1) := by decide +kernel
theorem dL_byRoles_16 : decode cL_byRoles 16 = .ok (.ireturn, 1) := by decide +kernel
set_option maxRecDepth 20000 in
theorem ggL_exceptions_X0_exceptions : GoodIn wsL_exceptions wsX0_exceptions := goodIn_ca (goodIn_r _ [6, 7, 8, 9, 10, 11, 5, 12, 13, 14, 15, 16, 17, 18, 19, 20, 21, 22, 23, 24, 25, 26, 27, 28, 29, 30, 31, 32, 33, 34, 35, 36, 37, 38] (by decide +kernel) (by decide +kernel)) (goodIn_sub (fun _ h => List.mem_cons_of_mem _ (List.mem_append_right _ h)) (by decide +kernel))
set_option maxRecDepth 20000 in
theorem gL_exceptions_X0_exceptions : GoodIn wsL_exceptions (wsV RL 81 RX0 yX0_exceptions wsX0_exceptions) := goodIn_app (goodIn_of _ (by decide +kernel)) ggL_exceptions_X0_exceptions
theorem dL_exceptions_0 : decode cL_exceptions 0 = .ok (.aload_n 2, 1) := by decide +kernel
theorem dL_exceptions_1 : decode cL_exceptions 1 = .ok (.iconst 0, 1) := by decide +kernel
theorem dL_exceptions_2 : decode cL_exceptions 2 = .ok (.aload_n 0, 1) := by decide +kernel
theorem dL_exceptions_3 : decode cL_exceptions 3 = .ok (.iload_n 1, 1) := by decide +kernel
theorem dL_exceptions_4 : decode cL_exceptions 4 = .ok (.invokevirtual 81, 3) := by decide +kernel
theorem dL_exceptions_7 : decode cL_exceptions 7 = .ok (.i2l, 1) := by decide +kernel
theorem dL_exceptions_8 : decode cL_exceptions 8 = .ok (.lastore, 1) := by decide +kernel
theorem dL_exceptions_9 : decode cL_exceptions 9 = .ok (.goto 6, 3) := by decide +kernel
theorem dL_exceptions_12 : decode cL_exceptions 12 = .ok (.astore_n 3, 1) := by decide +kernel
theorem dL_exceptions_13 : decode cL_exceptions 13 = .ok (.iconst 1, 1) := by decide +kernel
theorem dL_exceptions_14 : decode cL_exceptions 14 = .ok (.ireturn, 1) := by decide +kernel
theorem dL_exceptions_15 : decode cL_exceptions 15 = .ok (.iconst 0, 1) := by decide +kernel
theorem dL_exceptions_16 : decode cL_exceptions 16 = .ok (.ireturn, 1) := by decide +kernel
set_option maxRecDepth 20000 in
theorem ggL_isRisky_X0_isRisky : GoodIn wsL_isRisky wsX0_isRisky := goodIn_ca (goodIn_r _ [6, 7, 8, 9, 10, 11, 12, 13, 5, 14, 15, 16, 17, 18, 19, 20, 21, 22, 23, 24, 25, 26, 27, 28, 29, 30, 31, 32, 33, 34, 35, 36, 37, 38, 39, 40, 41, 42, 43] (by decide +kernel) (by decide +kernel)) (goodIn_sub (fun _ h => List.mem_cons_of_mem _ (List.mem_append_right _ h)) (by decide +kernel))
set_option maxRecDepth 20000 in
theorem gL_isRisky_X0_isRisky : GoodIn wsL_isRisky (wsV RL 84 RX0 yX0_isRisky wsX0_isRisky) := goodIn_app (goodIn_of _ (by decide +kernel)) ggL_isRisky_X0_isRisky
theorem dL_isRisky_0 : decode cL_isRisky 0 = .ok (.aload_n 2, 1) := by decide +kernel
theorem dL_isRisky_1 : decode cL_isRisky 1 = .ok (.iconst 0, 1) := by decide +kernel
theorem dL_isRisky_2 : decode cL_isRisky 2 = .ok (.aload_n 0, 1) := by decide +kernel
theorem dL_isRisky_3 : decode cL_isRisky 3 = .ok (.iload_n 1, 1) := by decide +kernel
theorem dL_isRisky_4 : decode cL_isRisky 4 = .ok (.invokevirtual 84, 3) := by decide +kernel
theorem dL_isRisky_7 : decode cL_isRisky 7 = .ok (.ifCond .eq 7, 3) := by decide +kernel
theorem dL_isRisky_10 : decode cL_isRisky 10 = .ok (.lconst 1, 1) := by decide +kernel
theorem dL_isRisky_11 : decode cL_isRisky 11 = .ok (.goto 4, 3) := by decide +kernel
theorem dL_isRisky_14 : decode cL_isRisky 14 = .ok (.lconst 0, 1) := by decide +kernel
theorem dL_isRisky_15 : decode cL_isRisky 15 = .ok (.lastore, 1) := by decide +kernel
theorem dL_isRisky_16 : decode cL_isRisky 16 = .ok (.goto 6, 3) := by decide +kernel
theorem dL_isRisky_19 : decode cL_isRisky 19 = .ok (.astore_n 3, 1) := by decide +kernel
theorem dL_isRisky_20 : decode cL_isRisky 20 = .ok (.iconst 1, 1) := by decide +kernel
theorem dL_isRisky_21 : decode cL_isRisky 21 = .ok (.ireturn, 1) := by decide +kernel
theorem dL_isRisky_22 : decode cL_isRisky 22 = .ok (.iconst 0, 1) := by decide +kernel
theorem dL_isRisky_23 : decode cL_isRisky 23 = .ok (.ireturn, 1) := by decide +kernel
