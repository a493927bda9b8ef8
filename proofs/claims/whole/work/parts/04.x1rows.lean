theorem dX1_init_0 : decode cX1_init 0 = .ok (.aload_n 0, 1) := by decide +kernel
theorem dX1_init_1 : decode cX1_init 1 = .ok (.invokespecial 1, 3) := by decide +kernel
theorem dX1_init_4 : decode cX1_init 4 = .ok (.aload_n 0, 1) := by decide +kernel
theorem dX1_init_5 : decode cX1_init 5 = .ok (.bipush 8, 2) := by decide +kernel
theorem dX1_init_7 : decode cX1_init 7 = .ok (.newarray .int, 2) := by decide +kernel
theorem dX1_init_9 : decode cX1_init 9 = .ok (.putfield 7, 3) := by decide +kernel
theorem dX1_init_12 : decode cX1_init 12 = .ok (.aload_n 0, 1) := by decide +kernel
theorem dX1_init_13 : decode cX1_init 13 = .ok (.bipush 96, 2) := by decide +kernel
theorem dX1_init_15 : decode cX1_init 15 = .ok (.newarray .int, 2) := by decide +kernel
theorem dX1_init_17 : decode cX1_init 17 = .ok (.putfield 13, 3) := by decide +kernel
theorem dX1_init_20 : decode cX1_init 20 = .ok (.aload_n 0, 1) := by decide +kernel
theorem dX1_init_21 : decode cX1_init 21 = .ok (.bipush 12, 2) := by decide +kernel
theorem dX1_init_23 : decode cX1_init 23 = .ok (.newarray .int, 2) := by decide +kernel
theorem dX1_init_25 : decode cX1_init 25 = .ok (.putfield 16, 3) := by decide +kernel
theorem dX1_init_28 : decode cX1_init 28 = .ok (.aload_n 0, 1) := by decide +kernel
theorem dX1_init_29 : decode cX1_init 29 = .ok (.sipush 256, 3) := by decide +kernel
theorem dX1_init_32 : decode cX1_init 32 = .ok (.newarray .int, 2) := by decide +kernel
theorem dX1_init_34 : decode cX1_init 34 = .ok (.putfield 19, 3) := by decide +kernel
theorem dX1_init_37 : decode cX1_init 37 = .ok (.aload_n 0, 1) := by decide +kernel
theorem dX1_init_38 : decode cX1_init 38 = .ok (.sipush 256, 3) := by decide +kernel
theorem dX1_init_41 : decode cX1_init 41 = .ok (.newarray .int, 2) := by decide +kernel
theorem dX1_init_43 : decode cX1_init 43 = .ok (.putfield 22, 3) := by decide +kernel
theorem dX1_init_46 : decode cX1_init 46 = .ok (.aload_n 0, 1) := by decide +kernel
theorem dX1_init_47 : decode cX1_init 47 = .ok (.sipush 4096, 3) := by decide +kernel
theorem dX1_init_50 : decode cX1_init 50 = .ok (.newarray .int, 2) := by decide +kernel
theorem dX1_init_52 : decode cX1_init 52 = .ok (.putfield 25, 3) := by decide +kernel
theorem dX1_init_55 : decode cX1_init 55 = .ok (.aload_n 0, 1) := by decide +kernel
theorem dX1_init_56 : decode cX1_init 56 = .ok (.bipush 8, 2) := by decide +kernel
theorem dX1_init_58 : decode cX1_init 58 = .ok (.newarray .int, 2) := by decide +kernel
theorem dX1_init_60 : decode cX1_init 60 = .ok (.putfield 28, 3) := by decide +kernel
theorem dX1_init_63 : decode cX1_init 63 = .ok (.aload_n 0, 1) := by decide +kernel
theorem dX1_init_64 : decode cX1_init 64 = .ok (.sipush 256, 3) := by decide +kernel
theorem dX1_init_67 : decode cX1_init 67 = .ok (.newarray .int, 2) := by decide +kernel
theorem dX1_init_69 : decode cX1_init 69 = .ok (.putfield 31, 3) := by decide +kernel
theorem dX1_init_72 : decode cX1_init 72 = .ok (.aload_n 0, 1) := by decide +kernel
theorem dX1_init_73 : decode cX1_init 73 = .ok (.iconst 5, 1) := by decide +kernel
theorem dX1_init_74 : decode cX1_init 74 = .ok (.putfield 34, 3) := by decide +kernel
theorem dX1_init_77 : decode cX1_init 77 = .ok (.aload_n 0, 1) := by decide +kernel
theorem dX1_init_78 : decode cX1_init 78 = .ok (.iconst 2, 1) := by decide +kernel
theorem dX1_init_79 : decode cX1_init 79 = .ok (.putfield 38, 3) := by decide +kernel
theorem dX1_init_82 : decode cX1_init 82 = .ok (.aload_n 0, 1) := by decide +kernel
theorem dX1_init_83 : decode cX1_init 83 = .ok (.iconst 1, 1) := by decide +kernel
theorem dX1_init_84 : decode cX1_init 84 = .ok (.putfield 41, 3) := by decide +kernel
theorem dX1_init_87 : decode cX1_init 87 = .ok (.aload_n 0, 1) := by decide +kernel
theorem dX1_init_88 : decode cX1_init 88 = .ok (.iconst 4, 1) := by decide +kernel
theorem dX1_init_89 : decode cX1_init 89 = .ok (.putfield 44, 3) := by decide +kernel
theorem dX1_init_92 : decode cX1_init 92 = .ok (.return_, 1) := by decide +kernel
theorem dX1_thrown_0 : decode cX1_thrown 0 = .ok (.aload_n 0, 1) := by decide +kernel
theorem dX1_thrown_1 : decode cX1_thrown 1 = .ok (.getfield 47, 3) := by decide +kernel
theorem dX1_thrown_4 : decode cX1_thrown 4 = .ok (.ireturn, 1) := by decide +kernel
theorem dX1_holds_0 : decode cX1_holds 0 = .ok (.aload_n 0, 1) := by decide +kernel
theorem dX1_holds_1 : decode cX1_holds 1 = .ok (.iload_n 1, 1) := by decide +kernel
theorem dX1_holds_2 : decode cX1_holds 2 = .ok (.putfield 47, 3) := by decide +kernel
theorem dX1_holds_5 : decode cX1_holds 5 = .ok (.iload_n 1, 1) := by decide +kernel
theorem dX1_holds_6 : decode cX1_holds 6 = .ok (.ifCond .le 7, 3) := by decide +kernel
theorem dX1_holds_9 : decode cX1_holds 9 = .ok (.iconst 1, 1) := by decide +kernel
theorem dX1_holds_10 : decode cX1_holds 10 = .ok (.goto 4, 3) := by decide +kernel
theorem dX1_holds_13 : decode cX1_holds 13 = .ok (.iconst 0, 1) := by decide +kernel
theorem dX1_holds_14 : decode cX1_holds 14 = .ok (.ireturn, 1) := by decide +kernel
theorem dX1_plain_0 : decode cX1_plain 0 = .ok (.aload_n 0, 1) := by decide +kernel
theorem dX1_plain_1 : decode cX1_plain 1 = .ok (.iconst 0, 1) := by decide +kernel
theorem dX1_plain_2 : decode cX1_plain 2 = .ok (.putfield 47, 3) := by decide +kernel
theorem dX1_plain_5 : decode cX1_plain 5 = .ok (.iload_n 1, 1) := by decide +kernel
theorem dX1_plain_6 : decode cX1_plain 6 = .ok (.ireturn, 1) := by decide +kernel
theorem dX1_between_0 : decode cX1_between 0 = .ok (.iload_n 1, 1) := by decide +kernel
theorem dX1_between_1 : decode cX1_between 1 = .ok (.iload_n 2, 1) := by decide +kernel
theorem dX1_between_2 : decode cX1_between 2 = .ok (.if_icmp .lt 12, 3) := by decide +kernel
theorem dX1_between_5 : decode cX1_between 5 = .ok (.iload_n 1, 1) := by decide +kernel
theorem dX1_between_6 : decode cX1_between 6 = .ok (.iload_n 3, 1) := by decide +kernel
theorem dX1_between_7 : decode cX1_between 7 = .ok (.if_icmp .gt 7, 3) := by decide +kernel
theorem dX1_between_10 : decode cX1_between 10 = .ok (.iconst 1, 1) := by decide +kernel
theorem dX1_between_11 : decode cX1_between 11 = .ok (.goto 4, 3) := by decide +kernel
theorem dX1_between_14 : decode cX1_between 14 = .ok (.iconst 0, 1) := by decide +kernel
theorem dX1_between_15 : decode cX1_between 15 = .ok (.ireturn, 1) := by decide +kernel
set_option maxRecDepth 20000 in
theorem ggX1_isUser_X1_between : GoodIn wsX1_isUser wsX1_between := goodIn_r _ [5] (by decide +kernel) (by decide +kernel)
set_option maxRecDepth 20000 in
theorem gX1_isUser_X1_between : GoodIn wsX1_isUser (wsV RX1 50 RX1 yX1_between wsX1_between) := goodIn_app (goodIn_of _ (by decide +kernel)) ggX1_isUser_X1_between
theorem dX1_isUser_0 : decode cX1_isUser 0 = .ok (.aload_n 0, 1) := by decide +kernel
theorem dX1_isUser_1 : decode cX1_isUser 1 = .ok (.iload_n 1, 1) := by decide +kernel
theorem dX1_isUser_2 : decode cX1_isUser 2 = .ok (.iconst 0, 1) := by decide +kernel
theorem dX1_isUser_3 : decode cX1_isUser 3 = .ok (.bipush 7, 2) := by decide +kernel
theorem dX1_isUser_5 : decode cX1_isUser 5 = .ok (.invokevirtual 50, 3) := by decide +kernel
theorem dX1_isUser_8 : decode cX1_isUser 8 = .ok (.ireturn, 1) := by decide +kernel
set_option maxRecDepth 20000 in
theorem ggX1_isPermission_X1_between : GoodIn wsX1_isPermission wsX1_between := goodIn_r _ [5] (by decide +kernel) (by decide +kernel)
set_option maxRecDepth 20000 in
theorem gX1_isPermission_X1_between : GoodIn wsX1_isPermission (wsV RX1 50 RX1 yX1_between wsX1_between) := goodIn_app (goodIn_of _ (by decide +kernel)) ggX1_isPermission_X1_between
theorem dX1_isPermission_0 : decode cX1_isPermission 0 = .ok (.aload_n 0, 1) := by decide +kernel
theorem dX1_isPermission_1 : decode cX1_isPermission 1 = .ok (.iload_n 1, 1) := by decide +kernel
theorem dX1_isPermission_2 : decode cX1_isPermission 2 = .ok (.iconst 0, 1) := by decide +kernel
theorem dX1_isPermission_3 : decode cX1_isPermission 3 = .ok (.bipush 11, 2) := by decide +kernel
theorem dX1_isPermission_5 : decode cX1_isPermission 5 = .ok (.invokevirtual 50, 3) := by decide +kernel
theorem dX1_isPermission_8 : decode cX1_isPermission 8 = .ok (.ireturn, 1) := by decide +kernel
theorem dX1_size_0 : decode cX1_size 0 = .ok (.iconst 0, 1) := by decide +kernel
theorem dX1_size_1 : decode cX1_size 1 = .ok (.istore_n 2, 1) := by decide +kernel
theorem dX1_size_2 : decode cX1_size 2 = .ok (.iload_n 1, 1) := by decide +kernel
theorem dX1_size_3 : decode cX1_size 3 = .ok (.istore_n 3, 1) := by decide +kernel
theorem dX1_size_4 : decode cX1_size 4 = .ok (.iload_n 3, 1) := by decide +kernel
theorem dX1_size_5 : decode cX1_size 5 = .ok (.ifCond .eq 15, 3) := by decide +kernel
theorem dX1_size_8 : decode cX1_size 8 = .ok (.iinc 2 1, 3) := by decide +kernel
theorem dX1_size_11 : decode cX1_size 11 = .ok (.iload_n 3, 1) := by decide +kernel
theorem dX1_size_12 : decode cX1_size 12 = .ok (.iload_n 3, 1) := by decide +kernel
theorem dX1_size_13 : decode cX1_size 13 = .ok (.iconst 1, 1) := by decide +kernel
theorem dX1_size_14 : decode cX1_size 14 = .ok (.isub, 1) := by decide +kernel
theorem dX1_size_15 : decode cX1_size 15 = .ok (.iand, 1) := by decide +kernel
theorem dX1_size_16 : decode cX1_size 16 = .ok (.istore_n 3, 1) := by decide +kernel
theorem dX1_size_17 : decode cX1_size 17 = .ok (.goto (-13), 3) := by decide +kernel
theorem dX1_size_20 : decode cX1_size 20 = .ok (.iload_n 2, 1) := by decide +kernel
theorem dX1_size_21 : decode cX1_size 21 = .ok (.ireturn, 1) := by decide +kernel
theorem dX1_isIn_0 : decode cX1_isIn 0 = .ok (.iload_n 1, 1) := by decide +kernel
theorem dX1_isIn_1 : decode cX1_isIn 1 = .ok (.iload_n 2, 1) := by decide +kernel
theorem dX1_isIn_2 : decode cX1_isIn 2 = .ok (.ishr, 1) := by decide +kernel
theorem dX1_isIn_3 : decode cX1_isIn 3 = .ok (.iconst 1, 1) := by decide +kernel
theorem dX1_isIn_4 : decode cX1_isIn 4 = .ok (.iand, 1) := by decide +kernel
theorem dX1_isIn_5 : decode cX1_isIn 5 = .ok (.iconst 1, 1) := by decide +kernel
theorem dX1_isIn_6 : decode cX1_isIn 6 = .ok (.if_icmp .ne 7, 3) := by decide +kernel
theorem dX1_isIn_9 : decode cX1_isIn 9 = .ok (.iconst 1, 1) := by decide +kernel
theorem dX1_isIn_10 : decode cX1_isIn 10 = .ok (.goto 4, 3) := by decide +kernel
theorem dX1_isIn_13 : decode cX1_isIn 13 = .ok (.iconst 0, 1) := by decide +kernel
theorem dX1_isIn_14 : decode cX1_isIn 14 = .ok (.ireturn, 1) := by decide +kernel
theorem dX1_isWithin_0 : decode cX1_isWithin 0 = .ok (.iload_n 1, 1) := by decide +kernel
theorem dX1_isWithin_1 : decode cX1_isWithin 1 = .ok (.aload_n 0, 1) := by decide +kernel
theorem dX1_isWithin_2 : decode cX1_isWithin 2 = .ok (.getfield 7, 3) := by decide +kernel
theorem dX1_isWithin_5 : decode cX1_isWithin 5 = .ok (.iload_n 2, 1) := by decide +kernel
theorem dX1_isWithin_6 : decode cX1_isWithin 6 = .ok (.iaload, 1) := by decide +kernel
theorem dX1_isWithin_7 : decode cX1_isWithin 7 = .ok (.iconst (-1), 1) := by decide +kernel
theorem dX1_isWithin_8 : decode cX1_isWithin 8 = .ok (.ixor, 1) := by decide +kernel
theorem dX1_isWithin_9 : decode cX1_isWithin 9 = .ok (.iand, 1) := by decide +kernel
theorem dX1_isWithin_10 : decode cX1_isWithin 10 = .ok (.ifCond .ne 7, 3) := by decide +kernel
theorem dX1_isWithin_13 : decode cX1_isWithin 13 = .ok (.iconst 1, 1) := by decide +kernel
theorem dX1_isWithin_14 : decode cX1_isWithin 14 = .ok (.goto 4, 3) := by decide +kernel
theorem dX1_isWithin_17 : decode cX1_isWithin 17 = .ok (.iconst 0, 1) := by decide +kernel
theorem dX1_isWithin_18 : decode cX1_isWithin 18 = .ok (.ireturn, 1) := by decide +kernel
set_option maxRecDepth 20000 in
theorem ggX1_isProper_X1_isIn : GoodIn wsX1_isProper wsX1_isIn := goodIn_r _ [6] (by decide +kernel) (by decide +kernel)
set_option maxRecDepth 20000 in
theorem gX1_isProper_X1_isIn : GoodIn wsX1_isProper (wsV RX1 54 RX1 yX1_isIn wsX1_isIn) := goodIn_app (goodIn_of _ (by decide +kernel)) ggX1_isProper_X1_isIn
theorem dX1_isProper_0 : decode cX1_isProper 0 = .ok (.iconst 0, 1) := by decide +kernel
theorem dX1_isProper_1 : decode cX1_isProper 1 = .ok (.istore_n 2, 1) := by decide +kernel
theorem dX1_isProper_2 : decode cX1_isProper 2 = .ok (.iload_n 2, 1) := by decide +kernel
theorem dX1_isProper_3 : decode cX1_isProper 3 = .ok (.bipush 12, 2) := by decide +kernel
theorem dX1_isProper_5 : decode cX1_isProper 5 = .ok (.if_icmp .ge 31, 3) := by decide +kernel
theorem dX1_isProper_8 : decode cX1_isProper 8 = .ok (.aload_n 0, 1) := by decide +kernel
theorem dX1_isProper_9 : decode cX1_isProper 9 = .ok (.iload_n 1, 1) := by decide +kernel
theorem dX1_isProper_10 : decode cX1_isProper 10 = .ok (.iload_n 2, 1) := by decide +kernel
theorem dX1_isProper_11 : decode cX1_isProper 11 = .ok (.invokevirtual 54, 3) := by decide +kernel
theorem dX1_isProper_14 : decode cX1_isProper 14 = .ok (.ifCond .eq 16, 3) := by decide +kernel
theorem dX1_isProper_17 : decode cX1_isProper 17 = .ok (.aload_n 0, 1) := by decide +kernel
theorem dX1_isProper_18 : decode cX1_isProper 18 = .ok (.getfield 16, 3) := by decide +kernel
theorem dX1_isProper_21 : decode cX1_isProper 21 = .ok (.iload_n 2, 1) := by decide +kernel
theorem dX1_isProper_22 : decode cX1_isProper 22 = .ok (.iaload, 1) := by decide +kernel
theorem dX1_isProper_23 : decode cX1_isProper 23 = .ok (.iload_n 1, 1) := by decide +kernel
theorem dX1_isProper_24 : decode cX1_isProper 24 = .ok (.iand, 1) := by decide +kernel
theorem dX1_isProper_25 : decode cX1_isProper 25 = .ok (.ifCond .eq 5, 3) := by decide +kernel
theorem dX1_isProper_28 : decode cX1_isProper 28 = .ok (.iconst 0, 1) := by decide +kernel
theorem dX1_isProper_29 : decode cX1_isProper 29 = .ok (.ireturn, 1) := by decide +kernel
theorem dX1_isProper_30 : decode cX1_isProper 30 = .ok (.iinc 2 1, 3) := by decide +kernel
theorem dX1_isProper_33 : decode cX1_isProper 33 = .ok (.goto (-31), 3) := by decide +kernel
theorem dX1_isProper_36 : decode cX1_isProper 36 = .ok (.iconst 1, 1) := by decide +kernel
theorem dX1_isProper_37 : decode cX1_isProper 37 = .ok (.ireturn, 1) := by decide +kernel
set_option maxRecDepth 20000 in
theorem ggX1_whoHas_X1_isWithin : GoodIn wsX1_whoHas wsX1_isWithin := goodIn_r _ [5, 6, 7, 8, 9, 10, 11, 12, 13, 14, 15, 16, 17, 18, 19, 20, 21, 22] (by decide +kernel) (by decide +kernel)
set_option maxRecDepth 20000 in
theorem gX1_whoHas_X1_isWithin : GoodIn wsX1_whoHas (wsV RX1 58 RX1 yX1_isWithin wsX1_isWithin) := goodIn_app (goodIn_of _ (by decide +kernel)) ggX1_whoHas_X1_isWithin
theorem dX1_whoHas_0 : decode cX1_whoHas 0 = .ok (.iconst 0, 1) := by decide +kernel
theorem dX1_whoHas_1 : decode cX1_whoHas 1 = .ok (.istore_n 2, 1) := by decide +kernel
theorem dX1_whoHas_2 : decode cX1_whoHas 2 = .ok (.bipush 7, 2) := by decide +kernel
theorem dX1_whoHas_4 : decode cX1_whoHas 4 = .ok (.istore_n 3, 1) := by decide +kernel
theorem dX1_whoHas_5 : decode cX1_whoHas 5 = .ok (.iload_n 3, 1) := by decide +kernel
theorem dX1_whoHas_6 : decode cX1_whoHas 6 = .ok (.ifCond .lt 28, 3) := by decide +kernel
theorem dX1_whoHas_9 : decode cX1_whoHas 9 = .ok (.iconst 2, 1) := by decide +kernel
theorem dX1_whoHas_10 : decode cX1_whoHas 10 = .ok (.iload_n 2, 1) := by decide +kernel
theorem dX1_whoHas_11 : decode cX1_whoHas 11 = .ok (.imul, 1) := by decide +kernel
theorem dX1_whoHas_12 : decode cX1_whoHas 12 = .ok (.aload_n 0, 1) := by decide +kernel
theorem dX1_whoHas_13 : decode cX1_whoHas 13 = .ok (.iload_n 1, 1) := by decide +kernel
theorem dX1_whoHas_14 : decode cX1_whoHas 14 = .ok (.iload_n 3, 1) := by decide +kernel
theorem dX1_whoHas_15 : decode cX1_whoHas 15 = .ok (.invokevirtual 58, 3) := by decide +kernel
theorem dX1_whoHas_18 : decode cX1_whoHas 18 = .ok (.ifCond .eq 7, 3) := by decide +kernel
theorem dX1_whoHas_21 : decode cX1_whoHas 21 = .ok (.iconst 1, 1) := by decide +kernel
theorem dX1_whoHas_22 : decode cX1_whoHas 22 = .ok (.goto 4, 3) := by decide +kernel
theorem dX1_whoHas_25 : decode cX1_whoHas 25 = .ok (.iconst 0, 1) := by decide +kernel
theorem dX1_whoHas_26 : decode cX1_whoHas 26 = .ok (.iadd, 1) := by decide +kernel
theorem dX1_whoHas_27 : decode cX1_whoHas 27 = .ok (.istore_n 2, 1) := by decide +kernel
theorem dX1_whoHas_28 : decode cX1_whoHas 28 = .ok (.iinc 3 (-1), 3) := by decide +kernel
theorem dX1_whoHas_31 : decode cX1_whoHas 31 = .ok (.goto (-26), 3) := by decide +kernel
theorem dX1_whoHas_34 : decode cX1_whoHas 34 = .ok (.iload_n 2, 1) := by decide +kernel
theorem dX1_whoHas_35 : decode cX1_whoHas 35 = .ok (.ireturn, 1) := by decide +kernel
theorem dX1_give_0 : decode cX1_give 0 = .ok (.aload_n 0, 1) := by decide +kernel
theorem dX1_give_1 : decode cX1_give 1 = .ok (.getfield 7, 3) := by decide +kernel
theorem dX1_give_4 : decode cX1_give 4 = .ok (.iload_n 1, 1) := by decide +kernel
theorem dX1_give_5 : decode cX1_give 5 = .ok (.dup2, 1) := by decide +kernel
theorem dX1_give_6 : decode cX1_give 6 = .ok (.iaload, 1) := by decide +kernel
theorem dX1_give_7 : decode cX1_give 7 = .ok (.iconst 1, 1) := by decide +kernel
theorem dX1_give_8 : decode cX1_give 8 = .ok (.iload_n 2, 1) := by decide +kernel
theorem dX1_give_9 : decode cX1_give 9 = .ok (.ishl, 1) := by decide +kernel
theorem dX1_give_10 : decode cX1_give 10 = .ok (.ior, 1) := by decide +kernel
theorem dX1_give_11 : decode cX1_give 11 = .ok (.iastore, 1) := by decide +kernel
theorem dX1_give_12 : decode cX1_give 12 = .ok (.aload_n 0, 1) := by decide +kernel
theorem dX1_give_13 : decode cX1_give 13 = .ok (.getfield 13, 3) := by decide +kernel
theorem dX1_give_16 : decode cX1_give 16 = .ok (.bipush 12, 2) := by decide +kernel
theorem dX1_give_18 : decode cX1_give 18 = .ok (.iload_n 1, 1) := by decide +kernel
theorem dX1_give_19 : decode cX1_give 19 = .ok (.imul, 1) := by decide +kernel
theorem dX1_give_20 : decode cX1_give 20 = .ok (.iload_n 2, 1) := by decide +kernel
theorem dX1_give_21 : decode cX1_give 21 = .ok (.iadd, 1) := by decide +kernel
theorem dX1_give_22 : decode cX1_give 22 = .ok (.aload_n 0, 1) := by decide +kernel
theorem dX1_give_23 : decode cX1_give 23 = .ok (.getfield 61, 3) := by decide +kernel
theorem dX1_give_26 : decode cX1_give 26 = .ok (.iastore, 1) := by decide +kernel
theorem dX1_give_27 : decode cX1_give 27 = .ok (.return_, 1) := by decide +kernel
set_option maxRecDepth 20000 in
theorem ggX1_grant_X1_isUser : GoodIn wsX1_grant wsX1_isUser := goodIn_r _ [6, 7, 8, 9, 5, 10] (by decide +kernel) (by decide +kernel)
set_option maxRecDepth 20000 in
theorem gX1_grant_X1_isUser : GoodIn wsX1_grant (wsV RX1 64 RX1 yX1_isUser wsX1_isUser) := goodIn_app (goodIn_of _ (by decide +kernel)) ggX1_grant_X1_isUser
set_option maxRecDepth 20000 in
theorem ggX1_grant_X1_isPermission : GoodIn wsX1_grant wsX1_isPermission := goodIn_r _ [14, 7, 8, 9, 5, 10] (by decide +kernel) (by decide +kernel)
set_option maxRecDepth 20000 in
theorem gX1_grant_X1_isPermission : GoodIn wsX1_grant (wsV RX1 68 RX1 yX1_isPermission wsX1_isPermission) := goodIn_app (goodIn_of _ (by decide +kernel)) ggX1_grant_X1_isPermission
set_option maxRecDepth 20000 in
theorem ggX1_grant_X1_holds : GoodIn wsX1_grant wsX1_holds := goodIn_r _ [18, 19, 30, 31, 32, 33, 34, 35, 36, 37, 38, 39, 40, 41, 42, 43, 44, 45] (by decide +kernel) (by decide +kernel)
set_option maxRecDepth 20000 in
theorem gX1_grant_X1_holds : GoodIn wsX1_grant (wsV RX1 71 RX1 yX1_holds wsX1_holds) := goodIn_app (goodIn_of _ (by decide +kernel)) ggX1_grant_X1_holds
set_option maxRecDepth 20000 in
theorem ggX1_grant_X1_isIn : GoodIn wsX1_grant wsX1_isIn := goodIn_r _ [23] (by decide +kernel) (by decide +kernel)
set_option maxRecDepth 20000 in
theorem gX1_grant_X1_isIn : GoodIn wsX1_grant (wsV RX1 54 RX1 yX1_isIn wsX1_isIn) := goodIn_app (goodIn_of _ (by decide +kernel)) ggX1_grant_X1_isIn
set_option maxRecDepth 20000 in
theorem ggX1_grant_X1_give : GoodIn wsX1_grant wsX1_give := goodIn_r _ [27, 1, 28, 29, 30, 31, 32, 33, 34, 35, 36, 37, 38, 39, 40, 41, 42, 43, 44, 45] (by decide +kernel) (by decide +kernel)
set_option maxRecDepth 20000 in
theorem gX1_grant_X1_give : GoodIn wsX1_grant (wsV RX1 74 RX1 yX1_give wsX1_give) := goodIn_app (goodIn_of _ (by decide +kernel)) ggX1_grant_X1_give
theorem dX1_grant_0 : decode cX1_grant 0 = .ok (.aload_n 0, 1) := by decide +kernel
theorem dX1_grant_1 : decode cX1_grant 1 = .ok (.aload_n 0, 1) := by decide +kernel
theorem dX1_grant_2 : decode cX1_grant 2 = .ok (.iload_n 1, 1) := by decide +kernel
theorem dX1_grant_3 : decode cX1_grant 3 = .ok (.invokevirtual 64, 3) := by decide +kernel
theorem dX1_grant_6 : decode cX1_grant 6 = .ok (.ifCond .eq 15, 3) := by decide +kernel
theorem dX1_grant_9 : decode cX1_grant 9 = .ok (.aload_n 0, 1) := by decide +kernel
theorem dX1_grant_10 : decode cX1_grant 10 = .ok (.iload_n 2, 1) := by decide +kernel
theorem dX1_grant_11 : decode cX1_grant 11 = .ok (.invokevirtual 68, 3) := by decide +kernel
theorem dX1_grant_14 : decode cX1_grant 14 = .ok (.ifCond .eq 7, 3) := by decide +kernel
theorem dX1_grant_17 : decode cX1_grant 17 = .ok (.iconst 0, 1) := by decide +kernel
theorem dX1_grant_18 : decode cX1_grant 18 = .ok (.goto 4, 3) := by decide +kernel
theorem dX1_grant_21 : decode cX1_grant 21 = .ok (.iconst 1, 1) := by decide +kernel
theorem dX1_grant_22 : decode cX1_grant 22 = .ok (.invokevirtual 71, 3) := by decide +kernel
theorem dX1_grant_25 : decode cX1_grant 25 = .ok (.ifCond .ne 17, 3) := by decide +kernel
theorem dX1_grant_28 : decode cX1_grant 28 = .ok (.aload_n 0, 1) := by decide +kernel
theorem dX1_grant_29 : decode cX1_grant 29 = .ok (.aload_n 0, 1) := by decide +kernel
theorem dX1_grant_30 : decode cX1_grant 30 = .ok (.getfield 7, 3) := by decide +kernel
theorem dX1_grant_33 : decode cX1_grant 33 = .ok (.iload_n 1, 1) := by decide +kernel
theorem dX1_grant_34 : decode cX1_grant 34 = .ok (.iaload, 1) := by decide +kernel
theorem dX1_grant_35 : decode cX1_grant 35 = .ok (.iload_n 2, 1) := by decide +kernel
theorem dX1_grant_36 : decode cX1_grant 36 = .ok (.invokevirtual 54, 3) := by decide +kernel
theorem dX1_grant_39 : decode cX1_grant 39 = .ok (.ifCond .eq 5, 3) := by decide +kernel
theorem dX1_grant_42 : decode cX1_grant 42 = .ok (.iconst 0, 1) := by decide +kernel
theorem dX1_grant_43 : decode cX1_grant 43 = .ok (.ireturn, 1) := by decide +kernel
theorem dX1_grant_44 : decode cX1_grant 44 = .ok (.aload_n 0, 1) := by decide +kernel
theorem dX1_grant_45 : decode cX1_grant 45 = .ok (.iload_n 1, 1) := by decide +kernel
theorem dX1_grant_46 : decode cX1_grant 46 = .ok (.iload_n 2, 1) := by decide +kernel
theorem dX1_grant_47 : decode cX1_grant 47 = .ok (.invokevirtual 74, 3) := by decide +kernel
theorem dX1_grant_50 : decode cX1_grant 50 = .ok (.iconst 1, 1) := by decide +kernel
theorem dX1_grant_51 : decode cX1_grant 51 = .ok (.ireturn, 1) := by decide +kernel
set_option maxRecDepth 20000 in
theorem ggX1_revoke_X1_isUser : GoodIn wsX1_revoke wsX1_isUser := goodIn_r _ [6, 7, 8, 9, 5, 10] (by decide +kernel) (by decide +kernel)
set_option maxRecDepth 20000 in
theorem gX1_revoke_X1_isUser : GoodIn wsX1_revoke (wsV RX1 64 RX1 yX1_isUser wsX1_isUser) := goodIn_app (goodIn_of _ (by decide +kernel)) ggX1_revoke_X1_isUser
set_option maxRecDepth 20000 in
theorem ggX1_revoke_X1_isPermission : GoodIn wsX1_revoke wsX1_isPermission := goodIn_r _ [14, 7, 8, 9, 5, 10] (by decide +kernel) (by decide +kernel)
set_option maxRecDepth 20000 in
theorem gX1_revoke_X1_isPermission : GoodIn wsX1_revoke (wsV RX1 68 RX1 yX1_isPermission wsX1_isPermission) := goodIn_app (goodIn_of _ (by decide +kernel)) ggX1_revoke_X1_isPermission
set_option maxRecDepth 20000 in
theorem ggX1_revoke_X1_holds : GoodIn wsX1_revoke wsX1_holds := goodIn_r _ [18, 19, 24, 25, 26, 27, 28, 29, 30, 31, 32, 33, 34, 35, 36, 37, 38, 39] (by decide +kernel) (by decide +kernel)
set_option maxRecDepth 20000 in
theorem gX1_revoke_X1_holds : GoodIn wsX1_revoke (wsV RX1 71 RX1 yX1_holds wsX1_holds) := goodIn_app (goodIn_of _ (by decide +kernel)) ggX1_revoke_X1_holds
set_option maxRecDepth 20000 in
theorem ggX1_revoke_X1_isIn : GoodIn wsX1_revoke wsX1_isIn := goodIn_r _ [23] (by decide +kernel) (by decide +kernel)
set_option maxRecDepth 20000 in
theorem gX1_revoke_X1_isIn : GoodIn wsX1_revoke (wsV RX1 54 RX1 yX1_isIn wsX1_isIn) := goodIn_app (goodIn_of _ (by decide +kernel)) ggX1_revoke_X1_isIn
theorem dX1_revoke_0 : decode cX1_revoke 0 = .ok (.aload_n 0, 1) := by decide +kernel
theorem dX1_revoke_1 : decode cX1_revoke 1 = .ok (.aload_n 0, 1) := by decide +kernel
theorem dX1_revoke_2 : decode cX1_revoke 2 = .ok (.iload_n 1, 1) := by decide +kernel
theorem dX1_revoke_3 : decode cX1_revoke 3 = .ok (.invokevirtual 64, 3) := by decide +kernel
theorem dX1_revoke_6 : decode cX1_revoke 6 = .ok (.ifCond .eq 15, 3) := by decide +kernel
theorem dX1_revoke_9 : decode cX1_revoke 9 = .ok (.aload_n 0, 1) := by decide +kernel
theorem dX1_revoke_10 : decode cX1_revoke 10 = .ok (.iload_n 2, 1) := by decide +kernel
theorem dX1_revoke_11 : decode cX1_revoke 11 = .ok (.invokevirtual 68, 3) := by decide +kernel
theorem dX1_revoke_14 : decode cX1_revoke 14 = .ok (.ifCond .eq 7, 3) := by decide +kernel
theorem dX1_revoke_17 : decode cX1_revoke 17 = .ok (.iconst 0, 1) := by decide +kernel
theorem dX1_revoke_18 : decode cX1_revoke 18 = .ok (.goto 4, 3) := by decide +kernel
theorem dX1_revoke_21 : decode cX1_revoke 21 = .ok (.iconst 1, 1) := by decide +kernel
theorem dX1_revoke_22 : decode cX1_revoke 22 = .ok (.invokevirtual 71, 3) := by decide +kernel
theorem dX1_revoke_25 : decode cX1_revoke 25 = .ok (.ifCond .eq 5, 3) := by decide +kernel
theorem dX1_revoke_28 : decode cX1_revoke 28 = .ok (.iconst 0, 1) := by decide +kernel
theorem dX1_revoke_29 : decode cX1_revoke 29 = .ok (.ireturn, 1) := by decide +kernel
theorem dX1_revoke_30 : decode cX1_revoke 30 = .ok (.aload_n 0, 1) := by decide +kernel
theorem dX1_revoke_31 : decode cX1_revoke 31 = .ok (.aload_n 0, 1) := by decide +kernel
theorem dX1_revoke_32 : decode cX1_revoke 32 = .ok (.getfield 7, 3) := by decide +kernel
theorem dX1_revoke_35 : decode cX1_revoke 35 = .ok (.iload_n 1, 1) := by decide +kernel
theorem dX1_revoke_36 : decode cX1_revoke 36 = .ok (.iaload, 1) := by decide +kernel
theorem dX1_revoke_37 : decode cX1_revoke 37 = .ok (.iload_n 2, 1) := by decide +kernel
theorem dX1_revoke_38 : decode cX1_revoke 38 = .ok (.invokevirtual 54, 3) := by decide +kernel
theorem dX1_revoke_41 : decode cX1_revoke 41 = .ok (.istore_n 3, 1) := by decide +kernel
theorem dX1_revoke_42 : decode cX1_revoke 42 = .ok (.aload_n 0, 1) := by decide +kernel
theorem dX1_revoke_43 : decode cX1_revoke 43 = .ok (.getfield 7, 3) := by decide +kernel
theorem dX1_revoke_46 : decode cX1_revoke 46 = .ok (.iload_n 1, 1) := by decide +kernel
theorem dX1_revoke_47 : decode cX1_revoke 47 = .ok (.dup2, 1) := by decide +kernel
theorem dX1_revoke_48 : decode cX1_revoke 48 = .ok (.iaload, 1) := by decide +kernel
theorem dX1_revoke_49 : decode cX1_revoke 49 = .ok (.iconst 1, 1) := by decide +kernel
theorem dX1_revoke_50 : decode cX1_revoke 50 = .ok (.iload_n 2, 1) := by decide +kernel
theorem dX1_revoke_51 : decode cX1_revoke 51 = .ok (.ishl, 1) := by decide +kernel
theorem dX1_revoke_52 : decode cX1_revoke 52 = .ok (.iconst (-1), 1) := by decide +kernel
theorem dX1_revoke_53 : decode cX1_revoke 53 = .ok (.ixor, 1) := by decide +kernel
theorem dX1_revoke_54 : decode cX1_revoke 54 = .ok (.iand, 1) := by decide +kernel
theorem dX1_revoke_55 : decode cX1_revoke 55 = .ok (.iastore, 1) := by decide +kernel
theorem dX1_revoke_56 : decode cX1_revoke 56 = .ok (.iload_n 3, 1) := by decide +kernel
theorem dX1_revoke_57 : decode cX1_revoke 57 = .ok (.ireturn, 1) := by decide +kernel
set_option maxRecDepth 20000 in
theorem ggX1_setGrants_X1_isUser : GoodIn wsX1_setGrants wsX1_isUser := goodIn_r _ [6, 7, 8, 9, 5, 10] (by decide +kernel) (by decide +kernel)
set_option maxRecDepth 20000 in
theorem gX1_setGrants_X1_isUser : GoodIn wsX1_setGrants (wsV RX1 64 RX1 yX1_isUser wsX1_isUser) := goodIn_app (goodIn_of _ (by decide +kernel)) ggX1_setGrants_X1_isUser
set_option maxRecDepth 20000 in
theorem ggX1_setGrants_X1_between : GoodIn wsX1_setGrants wsX1_between := goodIn_r _ [10] (by decide +kernel) (by decide +kernel)
set_option maxRecDepth 20000 in
theorem gX1_setGrants_X1_between : GoodIn wsX1_setGrants (wsV RX1 50 RX1 yX1_between wsX1_between) := goodIn_app (goodIn_of _ (by decide +kernel)) ggX1_setGrants_X1_between
set_option maxRecDepth 20000 in
theorem ggX1_setGrants_X1_holds : GoodIn wsX1_setGrants wsX1_holds := goodIn_r _ [14, 15, 30, 31, 32, 33, 34, 35, 36, 37, 38, 39, 40, 41, 42, 43, 44, 45] (by decide +kernel) (by decide +kernel)
set_option maxRecDepth 20000 in
theorem gX1_setGrants_X1_holds : GoodIn wsX1_setGrants (wsV RX1 71 RX1 yX1_holds wsX1_holds) := goodIn_app (goodIn_of _ (by decide +kernel)) ggX1_setGrants_X1_holds
set_option maxRecDepth 20000 in
theorem ggX1_setGrants_X1_size : GoodIn wsX1_setGrants wsX1_size := goodIn_r _ [19] (by decide +kernel) (by decide +kernel)
set_option maxRecDepth 20000 in
theorem gX1_setGrants_X1_size : GoodIn wsX1_setGrants (wsV RX1 78 RX1 yX1_size wsX1_size) := goodIn_app (goodIn_of _ (by decide +kernel)) ggX1_setGrants_X1_size
set_option maxRecDepth 20000 in
theorem ggX1_setGrants_X1_isIn : GoodIn wsX1_setGrants wsX1_isIn := goodIn_r _ [23] (by decide +kernel) (by decide +kernel)
set_option maxRecDepth 20000 in
theorem gX1_setGrants_X1_isIn : GoodIn wsX1_setGrants (wsV RX1 54 RX1 yX1_isIn wsX1_isIn) := goodIn_app (goodIn_of _ (by decide +kernel)) ggX1_setGrants_X1_isIn
set_option maxRecDepth 20000 in
theorem ggX1_setGrants_X1_give : GoodIn wsX1_setGrants wsX1_give := goodIn_r _ [27, 1, 28, 29, 30, 31, 32, 33, 34, 35, 36, 37, 38, 39, 40, 41, 42, 43, 44, 45] (by decide +kernel) (by decide +kernel)
set_option maxRecDepth 20000 in
theorem gX1_setGrants_X1_give : GoodIn wsX1_setGrants (wsV RX1 74 RX1 yX1_give wsX1_give) := goodIn_app (goodIn_of _ (by decide +kernel)) ggX1_setGrants_X1_give
theorem dX1_setGrants_0 : decode cX1_setGrants 0 = .ok (.aload_n 0, 1) := by decide +kernel
theorem dX1_setGrants_1 : decode cX1_setGrants 1 = .ok (.aload_n 0, 1) := by decide +kernel
theorem dX1_setGrants_2 : decode cX1_setGrants 2 = .ok (.iload_n 1, 1) := by decide +kernel
theorem dX1_setGrants_3 : decode cX1_setGrants 3 = .ok (.invokevirtual 64, 3) := by decide +kernel
theorem dX1_setGrants_6 : decode cX1_setGrants 6 = .ok (.ifCond .ne 7, 3) := by decide +kernel
theorem dX1_setGrants_9 : decode cX1_setGrants 9 = .ok (.iconst 1, 1) := by decide +kernel
theorem dX1_setGrants_10 : decode cX1_setGrants 10 = .ok (.goto 20, 3) := by decide +kernel
theorem dX1_setGrants_13 : decode cX1_setGrants 13 = .ok (.aload_n 0, 1) := by decide +kernel
theorem dX1_setGrants_14 : decode cX1_setGrants 14 = .ok (.iload_n 2, 1) := by decide +kernel
theorem dX1_setGrants_15 : decode cX1_setGrants 15 = .ok (.iconst 0, 1) := by decide +kernel
theorem dX1_setGrants_16 : decode cX1_setGrants 16 = .ok (.sipush 4095, 3) := by decide +kernel
theorem dX1_setGrants_19 : decode cX1_setGrants 19 = .ok (.invokevirtual 50, 3) := by decide +kernel
theorem dX1_setGrants_22 : decode cX1_setGrants 22 = .ok (.ifCond .eq 7, 3) := by decide +kernel
theorem dX1_setGrants_25 : decode cX1_setGrants 25 = .ok (.iconst 0, 1) := by decide +kernel
theorem dX1_setGrants_26 : decode cX1_setGrants 26 = .ok (.goto 4, 3) := by decide +kernel
theorem dX1_setGrants_29 : decode cX1_setGrants 29 = .ok (.iconst 2, 1) := by decide +kernel
theorem dX1_setGrants_30 : decode cX1_setGrants 30 = .ok (.invokevirtual 71, 3) := by decide +kernel
theorem dX1_setGrants_33 : decode cX1_setGrants 33 = .ok (.ifCond .eq 5, 3) := by decide +kernel
theorem dX1_setGrants_36 : decode cX1_setGrants 36 = .ok (.iconst (-1), 1) := by decide +kernel
theorem dX1_setGrants_37 : decode cX1_setGrants 37 = .ok (.ireturn, 1) := by decide +kernel
theorem dX1_setGrants_38 : decode cX1_setGrants 38 = .ok (.aload_n 0, 1) := by decide +kernel
theorem dX1_setGrants_39 : decode cX1_setGrants 39 = .ok (.aload_n 0, 1) := by decide +kernel
theorem dX1_setGrants_40 : decode cX1_setGrants 40 = .ok (.getfield 7, 3) := by decide +kernel
theorem dX1_setGrants_43 : decode cX1_setGrants 43 = .ok (.iload_n 1, 1) := by decide +kernel
theorem dX1_setGrants_44 : decode cX1_setGrants 44 = .ok (.iaload, 1) := by decide +kernel
theorem dX1_setGrants_45 : decode cX1_setGrants 45 = .ok (.iload_n 2, 1) := by decide +kernel
theorem dX1_setGrants_46 : decode cX1_setGrants 46 = .ok (.ixor, 1) := by decide +kernel
theorem dX1_setGrants_47 : decode cX1_setGrants 47 = .ok (.invokevirtual 78, 3) := by decide +kernel
theorem dX1_setGrants_50 : decode cX1_setGrants 50 = .ok (.istore_n 3, 1) := by decide +kernel
theorem dX1_setGrants_51 : decode cX1_setGrants 51 = .ok (.iconst 0, 1) := by decide +kernel
theorem dX1_setGrants_52 : decode cX1_setGrants 52 = .ok (.istore 4, 2) := by decide +kernel
theorem dX1_setGrants_54 : decode cX1_setGrants 54 = .ok (.iload 4, 2) := by decide +kernel
theorem dX1_setGrants_56 : decode cX1_setGrants 56 = .ok (.bipush 12, 2) := by decide +kernel
theorem dX1_setGrants_58 : decode cX1_setGrants 58 = .ok (.if_icmp .ge 35, 3) := by decide +kernel
theorem dX1_setGrants_61 : decode cX1_setGrants 61 = .ok (.aload_n 0, 1) := by decide +kernel
theorem dX1_setGrants_62 : decode cX1_setGrants 62 = .ok (.iload_n 2, 1) := by decide +kernel
theorem dX1_setGrants_63 : decode cX1_setGrants 63 = .ok (.aload_n 0, 1) := by decide +kernel
theorem dX1_setGrants_64 : decode cX1_setGrants 64 = .ok (.getfield 7, 3) := by decide +kernel
theorem dX1_setGrants_67 : decode cX1_setGrants 67 = .ok (.iload_n 1, 1) := by decide +kernel
theorem dX1_setGrants_68 : decode cX1_setGrants 68 = .ok (.iaload, 1) := by decide +kernel
theorem dX1_setGrants_69 : decode cX1_setGrants 69 = .ok (.iconst (-1), 1) := by decide +kernel
theorem dX1_setGrants_70 : decode cX1_setGrants 70 = .ok (.ixor, 1) := by decide +kernel
theorem dX1_setGrants_71 : decode cX1_setGrants 71 = .ok (.iand, 1) := by decide +kernel
theorem dX1_setGrants_72 : decode cX1_setGrants 72 = .ok (.iload 4, 2) := by decide +kernel
theorem dX1_setGrants_74 : decode cX1_setGrants 74 = .ok (.invokevirtual 54, 3) := by decide +kernel
theorem dX1_setGrants_77 : decode cX1_setGrants 77 = .ok (.ifCond .eq 10, 3) := by decide +kernel
theorem dX1_setGrants_80 : decode cX1_setGrants 80 = .ok (.aload_n 0, 1) := by decide +kernel
theorem dX1_setGrants_81 : decode cX1_setGrants 81 = .ok (.iload_n 1, 1) := by decide +kernel
theorem dX1_setGrants_82 : decode cX1_setGrants 82 = .ok (.iload 4, 2) := by decide +kernel
theorem dX1_setGrants_84 : decode cX1_setGrants 84 = .ok (.invokevirtual 74, 3) := by decide +kernel
theorem dX1_setGrants_87 : decode cX1_setGrants 87 = .ok (.iinc 4 1, 3) := by decide +kernel
theorem dX1_setGrants_90 : decode cX1_setGrants 90 = .ok (.goto (-36), 3) := by decide +kernel
theorem dX1_setGrants_93 : decode cX1_setGrants 93 = .ok (.aload_n 0, 1) := by decide +kernel
theorem dX1_setGrants_94 : decode cX1_setGrants 94 = .ok (.getfield 7, 3) := by decide +kernel
theorem dX1_setGrants_97 : decode cX1_setGrants 97 = .ok (.iload_n 1, 1) := by decide +kernel
theorem dX1_setGrants_98 : decode cX1_setGrants 98 = .ok (.iload_n 2, 1) := by decide +kernel
theorem dX1_setGrants_99 : decode cX1_setGrants 99 = .ok (.iastore, 1) := by decide +kernel
theorem dX1_setGrants_100 : decode cX1_setGrants 100 = .ok (.iload_n 3, 1) := by decide +kernel
theorem dX1_setGrants_101 : decode cX1_setGrants 101 = .ok (.ireturn, 1) := by decide +kernel
set_option maxRecDepth 20000 in
theorem ggX1_setConflict_X1_isPermission : GoodIn wsX1_setConflict wsX1_isPermission := goodIn_r _ [6, 7, 8, 9, 5, 10] (by decide +kernel) (by decide +kernel)
set_option maxRecDepth 20000 in
theorem gX1_setConflict_X1_isPermission : GoodIn wsX1_setConflict (wsV RX1 68 RX1 yX1_isPermission wsX1_isPermission) := goodIn_app (goodIn_of _ (by decide +kernel)) ggX1_setConflict_X1_isPermission
set_option maxRecDepth 20000 in
theorem ggX1_setConflict_X1_holds : GoodIn wsX1_setConflict wsX1_holds := goodIn_r _ [14, 15, 20, 21, 22, 23, 24, 25, 26, 27, 28, 29, 30, 31, 32, 33, 34, 35] (by decide +kernel) (by decide +kernel)
set_option maxRecDepth 20000 in
theorem gX1_setConflict_X1_holds : GoodIn wsX1_setConflict (wsV RX1 71 RX1 yX1_holds wsX1_holds) := goodIn_app (goodIn_of _ (by decide +kernel)) ggX1_setConflict_X1_holds
set_option maxRecDepth 20000 in
theorem ggX1_setConflict_X1_isIn : GoodIn wsX1_setConflict wsX1_isIn := goodIn_r _ [19] (by decide +kernel) (by decide +kernel)
set_option maxRecDepth 20000 in
theorem gX1_setConflict_X1_isIn : GoodIn wsX1_setConflict (wsV RX1 54 RX1 yX1_isIn wsX1_isIn) := goodIn_app (goodIn_of _ (by decide +kernel)) ggX1_setConflict_X1_isIn
theorem dX1_setConflict_0 : decode cX1_setConflict 0 = .ok (.aload_n 0, 1) := by decide +kernel
theorem dX1_setConflict_1 : decode cX1_setConflict 1 = .ok (.aload_n 0, 1) := by decide +kernel
theorem dX1_setConflict_2 : decode cX1_setConflict 2 = .ok (.iload_n 1, 1) := by decide +kernel
theorem dX1_setConflict_3 : decode cX1_setConflict 3 = .ok (.invokevirtual 68, 3) := by decide +kernel
theorem dX1_setConflict_6 : decode cX1_setConflict 6 = .ok (.ifCond .eq 11, 3) := by decide +kernel
theorem dX1_setConflict_9 : decode cX1_setConflict 9 = .ok (.aload_n 0, 1) := by decide +kernel
theorem dX1_setConflict_10 : decode cX1_setConflict 10 = .ok (.iload_n 2, 1) := by decide +kernel
theorem dX1_setConflict_11 : decode cX1_setConflict 11 = .ok (.invokevirtual 68, 3) := by decide +kernel
theorem dX1_setConflict_14 : decode cX1_setConflict 14 = .ok (.ifCond .ne 7, 3) := by decide +kernel
theorem dX1_setConflict_17 : decode cX1_setConflict 17 = .ok (.iconst 1, 1) := by decide +kernel
theorem dX1_setConflict_18 : decode cX1_setConflict 18 = .ok (.goto 13, 3) := by decide +kernel
theorem dX1_setConflict_21 : decode cX1_setConflict 21 = .ok (.iload_n 1, 1) := by decide +kernel
theorem dX1_setConflict_22 : decode cX1_setConflict 22 = .ok (.iload_n 2, 1) := by decide +kernel
theorem dX1_setConflict_23 : decode cX1_setConflict 23 = .ok (.if_icmp .ne 7, 3) := by decide +kernel
theorem dX1_setConflict_26 : decode cX1_setConflict 26 = .ok (.iconst 2, 1) := by decide +kernel
theorem dX1_setConflict_27 : decode cX1_setConflict 27 = .ok (.goto 4, 3) := by decide +kernel
theorem dX1_setConflict_30 : decode cX1_setConflict 30 = .ok (.iconst 0, 1) := by decide +kernel
theorem dX1_setConflict_31 : decode cX1_setConflict 31 = .ok (.invokevirtual 71, 3) := by decide +kernel
theorem dX1_setConflict_34 : decode cX1_setConflict 34 = .ok (.ifCond .eq 5, 3) := by decide +kernel
theorem dX1_setConflict_37 : decode cX1_setConflict 37 = .ok (.iconst 0, 1) := by decide +kernel
theorem dX1_setConflict_38 : decode cX1_setConflict 38 = .ok (.ireturn, 1) := by decide +kernel
theorem dX1_setConflict_39 : decode cX1_setConflict 39 = .ok (.aload_n 0, 1) := by decide +kernel
theorem dX1_setConflict_40 : decode cX1_setConflict 40 = .ok (.aload_n 0, 1) := by decide +kernel
theorem dX1_setConflict_41 : decode cX1_setConflict 41 = .ok (.getfield 16, 3) := by decide +kernel
theorem dX1_setConflict_44 : decode cX1_setConflict 44 = .ok (.iload_n 1, 1) := by decide +kernel
theorem dX1_setConflict_45 : decode cX1_setConflict 45 = .ok (.iaload, 1) := by decide +kernel
theorem dX1_setConflict_46 : decode cX1_setConflict 46 = .ok (.iload_n 2, 1) := by decide +kernel
theorem dX1_setConflict_47 : decode cX1_setConflict 47 = .ok (.invokevirtual 54, 3) := by decide +kernel
theorem dX1_setConflict_50 : decode cX1_setConflict 50 = .ok (.istore 4, 2) := by decide +kernel
theorem dX1_setConflict_52 : decode cX1_setConflict 52 = .ok (.iload 4, 2) := by decide +kernel
theorem dX1_setConflict_54 : decode cX1_setConflict 54 = .ok (.iload_n 3, 1) := by decide +kernel
theorem dX1_setConflict_55 : decode cX1_setConflict 55 = .ok (.if_icmp .eq 27, 3) := by decide +kernel
theorem dX1_setConflict_58 : decode cX1_setConflict 58 = .ok (.aload_n 0, 1) := by decide +kernel
theorem dX1_setConflict_59 : decode cX1_setConflict 59 = .ok (.getfield 16, 3) := by decide +kernel
theorem dX1_setConflict_62 : decode cX1_setConflict 62 = .ok (.iload_n 1, 1) := by decide +kernel
theorem dX1_setConflict_63 : decode cX1_setConflict 63 = .ok (.dup2, 1) := by decide +kernel
theorem dX1_setConflict_64 : decode cX1_setConflict 64 = .ok (.iaload, 1) := by decide +kernel
theorem dX1_setConflict_65 : decode cX1_setConflict 65 = .ok (.iconst 1, 1) := by decide +kernel
theorem dX1_setConflict_66 : decode cX1_setConflict 66 = .ok (.iload_n 2, 1) := by decide +kernel
theorem dX1_setConflict_67 : decode cX1_setConflict 67 = .ok (.ishl, 1) := by decide +kernel
theorem dX1_setConflict_68 : decode cX1_setConflict 68 = .ok (.ixor, 1) := by decide +kernel
theorem dX1_setConflict_69 : decode cX1_setConflict 69 = .ok (.iastore, 1) := by decide +kernel
theorem dX1_setConflict_70 : decode cX1_setConflict 70 = .ok (.aload_n 0, 1) := by decide +kernel
theorem dX1_setConflict_71 : decode cX1_setConflict 71 = .ok (.getfield 16, 3) := by decide +kernel
theorem dX1_setConflict_74 : decode cX1_setConflict 74 = .ok (.iload_n 2, 1) := by decide +kernel
theorem dX1_setConflict_75 : decode cX1_setConflict 75 = .ok (.dup2, 1) := by decide +kernel
theorem dX1_setConflict_76 : decode cX1_setConflict 76 = .ok (.iaload, 1) := by decide +kernel
theorem dX1_setConflict_77 : decode cX1_setConflict 77 = .ok (.iconst 1, 1) := by decide +kernel
theorem dX1_setConflict_78 : decode cX1_setConflict 78 = .ok (.iload_n 1, 1) := by decide +kernel
theorem dX1_setConflict_79 : decode cX1_setConflict 79 = .ok (.ishl, 1) := by decide +kernel
theorem dX1_setConflict_80 : decode cX1_setConflict 80 = .ok (.ixor, 1) := by decide +kernel
theorem dX1_setConflict_81 : decode cX1_setConflict 81 = .ok (.iastore, 1) := by decide +kernel
theorem dX1_setConflict_82 : decode cX1_setConflict 82 = .ok (.iload 4, 2) := by decide +kernel
theorem dX1_setConflict_84 : decode cX1_setConflict 84 = .ok (.ireturn, 1) := by decide +kernel
set_option maxRecDepth 20000 in
theorem ggX1_setCosts_X1_between : GoodIn wsX1_setCosts wsX1_between := goodIn_r _ [7] (by decide +kernel) (by decide +kernel)
set_option maxRecDepth 20000 in
theorem gX1_setCosts_X1_between : GoodIn wsX1_setCosts (wsV RX1 50 RX1 yX1_between wsX1_between) := goodIn_app (goodIn_of _ (by decide +kernel)) ggX1_setCosts_X1_between
set_option maxRecDepth 20000 in
theorem ggX1_setCosts_X1_holds : GoodIn wsX1_setCosts wsX1_holds := goodIn_r _ [11, 12, 13, 14, 15, 16, 17, 18, 19, 20, 21, 22, 23, 24, 25, 26, 27, 28] (by decide +kernel) (by decide +kernel)
set_option maxRecDepth 20000 in
theorem gX1_setCosts_X1_holds : GoodIn wsX1_setCosts (wsV RX1 71 RX1 yX1_holds wsX1_holds) := goodIn_app (goodIn_of _ (by decide +kernel)) ggX1_setCosts_X1_holds
theorem dX1_setCosts_0 : decode cX1_setCosts 0 = .ok (.aload_n 0, 1) := by decide +kernel
theorem dX1_setCosts_1 : decode cX1_setCosts 1 = .ok (.aload_n 0, 1) := by decide +kernel
theorem dX1_setCosts_2 : decode cX1_setCosts 2 = .ok (.iload_n 1, 1) := by decide +kernel
theorem dX1_setCosts_3 : decode cX1_setCosts 3 = .ok (.iconst 0, 1) := by decide +kernel
theorem dX1_setCosts_4 : decode cX1_setCosts 4 = .ok (.bipush 100, 2) := by decide +kernel
theorem dX1_setCosts_6 : decode cX1_setCosts 6 = .ok (.invokevirtual 50, 3) := by decide +kernel
theorem dX1_setCosts_9 : decode cX1_setCosts 9 = .ok (.ifCond .eq 18, 3) := by decide +kernel
theorem dX1_setCosts_12 : decode cX1_setCosts 12 = .ok (.aload_n 0, 1) := by decide +kernel
theorem dX1_setCosts_13 : decode cX1_setCosts 13 = .ok (.iload_n 2, 1) := by decide +kernel
theorem dX1_setCosts_14 : decode cX1_setCosts 14 = .ok (.iconst 0, 1) := by decide +kernel
theorem dX1_setCosts_15 : decode cX1_setCosts 15 = .ok (.bipush 100, 2) := by decide +kernel
theorem dX1_setCosts_17 : decode cX1_setCosts 17 = .ok (.invokevirtual 50, 3) := by decide +kernel
theorem dX1_setCosts_20 : decode cX1_setCosts 20 = .ok (.ifCond .eq 7, 3) := by decide +kernel
theorem dX1_setCosts_23 : decode cX1_setCosts 23 = .ok (.iconst 0, 1) := by decide +kernel
theorem dX1_setCosts_24 : decode cX1_setCosts 24 = .ok (.goto 4, 3) := by decide +kernel
theorem dX1_setCosts_27 : decode cX1_setCosts 27 = .ok (.iconst 1, 1) := by decide +kernel
theorem dX1_setCosts_28 : decode cX1_setCosts 28 = .ok (.invokevirtual 71, 3) := by decide +kernel
theorem dX1_setCosts_31 : decode cX1_setCosts 31 = .ok (.ifCond .ne 13, 3) := by decide +kernel
theorem dX1_setCosts_34 : decode cX1_setCosts 34 = .ok (.aload_n 0, 1) := by decide +kernel
theorem dX1_setCosts_35 : decode cX1_setCosts 35 = .ok (.iload_n 1, 1) := by decide +kernel
theorem dX1_setCosts_36 : decode cX1_setCosts 36 = .ok (.putfield 34, 3) := by decide +kernel
theorem dX1_setCosts_39 : decode cX1_setCosts 39 = .ok (.aload_n 0, 1) := by decide +kernel
theorem dX1_setCosts_40 : decode cX1_setCosts 40 = .ok (.iload_n 2, 1) := by decide +kernel
theorem dX1_setCosts_41 : decode cX1_setCosts 41 = .ok (.putfield 38, 3) := by decide +kernel
theorem dX1_setCosts_44 : decode cX1_setCosts 44 = .ok (.return_, 1) := by decide +kernel
set_option maxRecDepth 20000 in
theorem ggX1_setSupport_X1_between : GoodIn wsX1_setSupport wsX1_between := goodIn_r _ [6] (by decide +kernel) (by decide +kernel)
set_option maxRecDepth 20000 in
theorem gX1_setSupport_X1_between : GoodIn wsX1_setSupport (wsV RX1 50 RX1 yX1_between wsX1_between) := goodIn_app (goodIn_of _ (by decide +kernel)) ggX1_setSupport_X1_between
set_option maxRecDepth 20000 in
theorem ggX1_setSupport_X1_holds : GoodIn wsX1_setSupport wsX1_holds := goodIn_r _ [10, 11, 12, 13, 14, 15, 16, 17, 18, 19, 20, 21, 22, 23, 24, 25, 26, 27] (by decide +kernel) (by decide +kernel)
set_option maxRecDepth 20000 in
theorem gX1_setSupport_X1_holds : GoodIn wsX1_setSupport (wsV RX1 71 RX1 yX1_holds wsX1_holds) := goodIn_app (goodIn_of _ (by decide +kernel)) ggX1_setSupport_X1_holds
theorem dX1_setSupport_0 : decode cX1_setSupport 0 = .ok (.aload_n 0, 1) := by decide +kernel
theorem dX1_setSupport_1 : decode cX1_setSupport 1 = .ok (.aload_n 0, 1) := by decide +kernel
theorem dX1_setSupport_2 : decode cX1_setSupport 2 = .ok (.iload_n 1, 1) := by decide +kernel
theorem dX1_setSupport_3 : decode cX1_setSupport 3 = .ok (.iconst 1, 1) := by decide +kernel
theorem dX1_setSupport_4 : decode cX1_setSupport 4 = .ok (.bipush 8, 2) := by decide +kernel
theorem dX1_setSupport_6 : decode cX1_setSupport 6 = .ok (.invokevirtual 50, 3) := by decide +kernel
theorem dX1_setSupport_9 : decode cX1_setSupport 9 = .ok (.ifCond .eq 7, 3) := by decide +kernel
theorem dX1_setSupport_12 : decode cX1_setSupport 12 = .ok (.iconst 0, 1) := by decide +kernel
theorem dX1_setSupport_13 : decode cX1_setSupport 13 = .ok (.goto 4, 3) := by decide +kernel
theorem dX1_setSupport_16 : decode cX1_setSupport 16 = .ok (.iconst 1, 1) := by decide +kernel
theorem dX1_setSupport_17 : decode cX1_setSupport 17 = .ok (.invokevirtual 71, 3) := by decide +kernel
theorem dX1_setSupport_20 : decode cX1_setSupport 20 = .ok (.ifCond .eq 5, 3) := by decide +kernel
theorem dX1_setSupport_23 : decode cX1_setSupport 23 = .ok (.iconst (-1), 1) := by decide +kernel
theorem dX1_setSupport_24 : decode cX1_setSupport 24 = .ok (.ireturn, 1) := by decide +kernel
theorem dX1_setSupport_25 : decode cX1_setSupport 25 = .ok (.aload_n 0, 1) := by decide +kernel
theorem dX1_setSupport_26 : decode cX1_setSupport 26 = .ok (.getfield 41, 3) := by decide +kernel
theorem dX1_setSupport_29 : decode cX1_setSupport 29 = .ok (.istore_n 2, 1) := by decide +kernel
theorem dX1_setSupport_30 : decode cX1_setSupport 30 = .ok (.aload_n 0, 1) := by decide +kernel
theorem dX1_setSupport_31 : decode cX1_setSupport 31 = .ok (.iload_n 1, 1) := by decide +kernel
theorem dX1_setSupport_32 : decode cX1_setSupport 32 = .ok (.putfield 41, 3) := by decide +kernel
theorem dX1_setSupport_35 : decode cX1_setSupport 35 = .ok (.iload_n 2, 1) := by decide +kernel
theorem dX1_setSupport_36 : decode cX1_setSupport 36 = .ok (.ireturn, 1) := by decide +kernel
set_option maxRecDepth 20000 in
theorem ggX1_setPeriod_X1_between : GoodIn wsX1_setPeriod wsX1_between := goodIn_r _ [6] (by decide +kernel) (by decide +kernel)
set_option maxRecDepth 20000 in
theorem gX1_setPeriod_X1_between : GoodIn wsX1_setPeriod (wsV RX1 50 RX1 yX1_between wsX1_between) := goodIn_app (goodIn_of _ (by decide +kernel)) ggX1_setPeriod_X1_between
set_option maxRecDepth 20000 in
theorem ggX1_setPeriod_X1_holds : GoodIn wsX1_setPeriod wsX1_holds := goodIn_r _ [10, 11, 12, 13, 14, 15, 16, 17, 18, 19, 20, 21, 22, 23, 24, 25, 26, 27] (by decide +kernel) (by decide +kernel)
set_option maxRecDepth 20000 in
theorem gX1_setPeriod_X1_holds : GoodIn wsX1_setPeriod (wsV RX1 71 RX1 yX1_holds wsX1_holds) := goodIn_app (goodIn_of _ (by decide +kernel)) ggX1_setPeriod_X1_holds
theorem dX1_setPeriod_0 : decode cX1_setPeriod 0 = .ok (.aload_n 0, 1) := by decide +kernel
theorem dX1_setPeriod_1 : decode cX1_setPeriod 1 = .ok (.aload_n 0, 1) := by decide +kernel
theorem dX1_setPeriod_2 : decode cX1_setPeriod 2 = .ok (.iload_n 1, 1) := by decide +kernel
theorem dX1_setPeriod_3 : decode cX1_setPeriod 3 = .ok (.iconst 1, 1) := by decide +kernel
theorem dX1_setPeriod_4 : decode cX1_setPeriod 4 = .ok (.bipush 8, 2) := by decide +kernel
theorem dX1_setPeriod_6 : decode cX1_setPeriod 6 = .ok (.invokevirtual 50, 3) := by decide +kernel
theorem dX1_setPeriod_9 : decode cX1_setPeriod 9 = .ok (.ifCond .eq 7, 3) := by decide +kernel
theorem dX1_setPeriod_12 : decode cX1_setPeriod 12 = .ok (.iconst 0, 1) := by decide +kernel
theorem dX1_setPeriod_13 : decode cX1_setPeriod 13 = .ok (.goto 4, 3) := by decide +kernel
theorem dX1_setPeriod_16 : decode cX1_setPeriod 16 = .ok (.iconst 1, 1) := by decide +kernel
theorem dX1_setPeriod_17 : decode cX1_setPeriod 17 = .ok (.invokevirtual 71, 3) := by decide +kernel
theorem dX1_setPeriod_20 : decode cX1_setPeriod 20 = .ok (.ifCond .eq 5, 3) := by decide +kernel
theorem dX1_setPeriod_23 : decode cX1_setPeriod 23 = .ok (.iconst (-1), 1) := by decide +kernel
theorem dX1_setPeriod_24 : decode cX1_setPeriod 24 = .ok (.ireturn, 1) := by decide +kernel
theorem dX1_setPeriod_25 : decode cX1_setPeriod 25 = .ok (.aload_n 0, 1) := by decide +kernel
theorem dX1_setPeriod_26 : decode cX1_setPeriod 26 = .ok (.getfield 44, 3) := by decide +kernel
theorem dX1_setPeriod_29 : decode cX1_setPeriod 29 = .ok (.istore_n 2, 1) := by decide +kernel
theorem dX1_setPeriod_30 : decode cX1_setPeriod 30 = .ok (.aload_n 0, 1) := by decide +kernel
theorem dX1_setPeriod_31 : decode cX1_setPeriod 31 = .ok (.iload_n 1, 1) := by decide +kernel
theorem dX1_setPeriod_32 : decode cX1_setPeriod 32 = .ok (.putfield 44, 3) := by decide +kernel
theorem dX1_setPeriod_35 : decode cX1_setPeriod 35 = .ok (.iload_n 2, 1) := by decide +kernel
theorem dX1_setPeriod_36 : decode cX1_setPeriod 36 = .ok (.ireturn, 1) := by decide +kernel
set_option maxRecDepth 20000 in
theorem ggX1_review_X1_isUser : GoodIn wsX1_review wsX1_isUser := goodIn_r _ [8, 9, 10, 11, 7, 12] (by decide +kernel) (by decide +kernel)
set_option maxRecDepth 20000 in
theorem gX1_review_X1_isUser : GoodIn wsX1_review (wsV RX1 64 RX1 yX1_isUser wsX1_isUser) := goodIn_app (goodIn_of _ (by decide +kernel)) ggX1_review_X1_isUser
set_option maxRecDepth 20000 in
theorem ggX1_review_X1_isPermission : GoodIn wsX1_review wsX1_isPermission := goodIn_r _ [16, 9, 10, 11, 7, 12] (by decide +kernel) (by decide +kernel)
set_option maxRecDepth 20000 in
theorem gX1_review_X1_isPermission : GoodIn wsX1_review (wsV RX1 68 RX1 yX1_isPermission wsX1_isPermission) := goodIn_app (goodIn_of _ (by decide +kernel)) ggX1_review_X1_isPermission
set_option maxRecDepth 20000 in
theorem ggX1_review_X1_isIn : GoodIn wsX1_review wsX1_isIn := goodIn_r _ [20] (by decide +kernel) (by decide +kernel)
set_option maxRecDepth 20000 in
theorem gX1_review_X1_isIn : GoodIn wsX1_review (wsV RX1 54 RX1 yX1_isIn wsX1_isIn) := goodIn_app (goodIn_of _ (by decide +kernel)) ggX1_review_X1_isIn
set_option maxRecDepth 20000 in
theorem ggX1_review_X1_holds : GoodIn wsX1_review wsX1_holds := goodIn_r _ [24, 25, 26, 27, 28, 29, 30, 31, 32, 33, 34, 35, 36, 37, 38, 39, 40, 41] (by decide +kernel) (by decide +kernel)
set_option maxRecDepth 20000 in
theorem gX1_review_X1_holds : GoodIn wsX1_review (wsV RX1 71 RX1 yX1_holds wsX1_holds) := goodIn_app (goodIn_of _ (by decide +kernel)) ggX1_review_X1_holds
theorem dX1_review_0 : decode cX1_review 0 = .ok (.aload_n 0, 1) := by decide +kernel
theorem dX1_review_1 : decode cX1_review 1 = .ok (.aload_n 0, 1) := by decide +kernel
theorem dX1_review_2 : decode cX1_review 2 = .ok (.iload_n 1, 1) := by decide +kernel
theorem dX1_review_3 : decode cX1_review 3 = .ok (.invokevirtual 64, 3) := by decide +kernel
theorem dX1_review_6 : decode cX1_review 6 = .ok (.ifCond .eq 11, 3) := by decide +kernel
theorem dX1_review_9 : decode cX1_review 9 = .ok (.aload_n 0, 1) := by decide +kernel
theorem dX1_review_10 : decode cX1_review 10 = .ok (.iload_n 2, 1) := by decide +kernel
theorem dX1_review_11 : decode cX1_review 11 = .ok (.invokevirtual 68, 3) := by decide +kernel
theorem dX1_review_14 : decode cX1_review 14 = .ok (.ifCond .ne 7, 3) := by decide +kernel
theorem dX1_review_17 : decode cX1_review 17 = .ok (.iconst 1, 1) := by decide +kernel
theorem dX1_review_18 : decode cX1_review 18 = .ok (.goto 22, 3) := by decide +kernel
theorem dX1_review_21 : decode cX1_review 21 = .ok (.aload_n 0, 1) := by decide +kernel
theorem dX1_review_22 : decode cX1_review 22 = .ok (.aload_n 0, 1) := by decide +kernel
theorem dX1_review_23 : decode cX1_review 23 = .ok (.getfield 7, 3) := by decide +kernel
theorem dX1_review_26 : decode cX1_review 26 = .ok (.iload_n 1, 1) := by decide +kernel
theorem dX1_review_27 : decode cX1_review 27 = .ok (.iaload, 1) := by decide +kernel
theorem dX1_review_28 : decode cX1_review 28 = .ok (.iload_n 2, 1) := by decide +kernel
theorem dX1_review_29 : decode cX1_review 29 = .ok (.invokevirtual 54, 3) := by decide +kernel
theorem dX1_review_32 : decode cX1_review 32 = .ok (.ifCond .eq 7, 3) := by decide +kernel
theorem dX1_review_35 : decode cX1_review 35 = .ok (.iconst 0, 1) := by decide +kernel
theorem dX1_review_36 : decode cX1_review 36 = .ok (.goto 4, 3) := by decide +kernel
theorem dX1_review_39 : decode cX1_review 39 = .ok (.iconst 2, 1) := by decide +kernel
theorem dX1_review_40 : decode cX1_review 40 = .ok (.invokevirtual 71, 3) := by decide +kernel
theorem dX1_review_43 : decode cX1_review 43 = .ok (.ifCond .eq 5, 3) := by decide +kernel
theorem dX1_review_46 : decode cX1_review 46 = .ok (.iconst (-1), 1) := by decide +kernel
theorem dX1_review_47 : decode cX1_review 47 = .ok (.ireturn, 1) := by decide +kernel
theorem dX1_review_48 : decode cX1_review 48 = .ok (.aload_n 0, 1) := by decide +kernel
theorem dX1_review_49 : decode cX1_review 49 = .ok (.getfield 61, 3) := by decide +kernel
theorem dX1_review_52 : decode cX1_review 52 = .ok (.aload_n 0, 1) := by decide +kernel
theorem dX1_review_53 : decode cX1_review 53 = .ok (.getfield 13, 3) := by decide +kernel
theorem dX1_review_56 : decode cX1_review 56 = .ok (.bipush 12, 2) := by decide +kernel
theorem dX1_review_58 : decode cX1_review 58 = .ok (.iload_n 1, 1) := by decide +kernel
theorem dX1_review_59 : decode cX1_review 59 = .ok (.imul, 1) := by decide +kernel
theorem dX1_review_60 : decode cX1_review 60 = .ok (.iload_n 2, 1) := by decide +kernel
theorem dX1_review_61 : decode cX1_review 61 = .ok (.iadd, 1) := by decide +kernel
theorem dX1_review_62 : decode cX1_review 62 = .ok (.iaload, 1) := by decide +kernel
theorem dX1_review_63 : decode cX1_review 63 = .ok (.isub, 1) := by decide +kernel
theorem dX1_review_64 : decode cX1_review 64 = .ok (.istore_n 3, 1) := by decide +kernel
theorem dX1_review_65 : decode cX1_review 65 = .ok (.aload_n 0, 1) := by decide +kernel
theorem dX1_review_66 : decode cX1_review 66 = .ok (.getfield 13, 3) := by decide +kernel
theorem dX1_review_69 : decode cX1_review 69 = .ok (.bipush 12, 2) := by decide +kernel
theorem dX1_review_71 : decode cX1_review 71 = .ok (.iload_n 1, 1) := by decide +kernel
theorem dX1_review_72 : decode cX1_review 72 = .ok (.imul, 1) := by decide +kernel
theorem dX1_review_73 : decode cX1_review 73 = .ok (.iload_n 2, 1) := by decide +kernel
theorem dX1_review_74 : decode cX1_review 74 = .ok (.iadd, 1) := by decide +kernel
theorem dX1_review_75 : decode cX1_review 75 = .ok (.aload_n 0, 1) := by decide +kernel
theorem dX1_review_76 : decode cX1_review 76 = .ok (.getfield 61, 3) := by decide +kernel
theorem dX1_review_79 : decode cX1_review 79 = .ok (.iastore, 1) := by decide +kernel
theorem dX1_review_80 : decode cX1_review 80 = .ok (.iload_n 3, 1) := by decide +kernel
theorem dX1_review_81 : decode cX1_review 81 = .ok (.ireturn, 1) := by decide +kernel
set_option maxRecDepth 20000 in
theorem ggX1_old_X1_isIn : GoodIn wsX1_old wsX1_isIn := goodIn_r _ [8] (by decide +kernel) (by decide +kernel)
set_option maxRecDepth 20000 in
theorem gX1_old_X1_isIn : GoodIn wsX1_old (wsV RX1 54 RX1 yX1_isIn wsX1_isIn) := goodIn_app (goodIn_of _ (by decide +kernel)) ggX1_old_X1_isIn
theorem dX1_old_0 : decode cX1_old 0 = .ok (.iconst 0, 1) := by decide +kernel
theorem dX1_old_1 : decode cX1_old 1 = .ok (.istore_n 3, 1) := by decide +kernel
theorem dX1_old_2 : decode cX1_old 2 = .ok (.iconst 0, 1) := by decide +kernel
theorem dX1_old_3 : decode cX1_old 3 = .ok (.istore 4, 2) := by decide +kernel
theorem dX1_old_5 : decode cX1_old 5 = .ok (.iload 4, 2) := by decide +kernel
theorem dX1_old_7 : decode cX1_old 7 = .ok (.bipush 12, 2) := by decide +kernel
theorem dX1_old_9 : decode cX1_old 9 = .ok (.if_icmp .ge 56, 3) := by decide +kernel
theorem dX1_old_12 : decode cX1_old 12 = .ok (.iload_n 3, 1) := by decide +kernel
theorem dX1_old_13 : decode cX1_old 13 = .ok (.aload_n 0, 1) := by decide +kernel
theorem dX1_old_14 : decode cX1_old 14 = .ok (.aload_n 0, 1) := by decide +kernel
theorem dX1_old_15 : decode cX1_old 15 = .ok (.getfield 7, 3) := by decide +kernel
theorem dX1_old_18 : decode cX1_old 18 = .ok (.iload_n 1, 1) := by decide +kernel
theorem dX1_old_19 : decode cX1_old 19 = .ok (.iaload, 1) := by decide +kernel
theorem dX1_old_20 : decode cX1_old 20 = .ok (.iload 4, 2) := by decide +kernel
theorem dX1_old_22 : decode cX1_old 22 = .ok (.invokevirtual 54, 3) := by decide +kernel
theorem dX1_old_25 : decode cX1_old 25 = .ok (.ifCond .eq 31, 3) := by decide +kernel
theorem dX1_old_28 : decode cX1_old 28 = .ok (.iload_n 2, 1) := by decide +kernel
theorem dX1_old_29 : decode cX1_old 29 = .ok (.aload_n 0, 1) := by decide +kernel
theorem dX1_old_30 : decode cX1_old 30 = .ok (.getfield 13, 3) := by decide +kernel
theorem dX1_old_33 : decode cX1_old 33 = .ok (.bipush 12, 2) := by decide +kernel
theorem dX1_old_35 : decode cX1_old 35 = .ok (.iload_n 1, 1) := by decide +kernel
theorem dX1_old_36 : decode cX1_old 36 = .ok (.imul, 1) := by decide +kernel
theorem dX1_old_37 : decode cX1_old 37 = .ok (.iload 4, 2) := by decide +kernel
theorem dX1_old_39 : decode cX1_old 39 = .ok (.iadd, 1) := by decide +kernel
theorem dX1_old_40 : decode cX1_old 40 = .ok (.iaload, 1) := by decide +kernel
theorem dX1_old_41 : decode cX1_old 41 = .ok (.isub, 1) := by decide +kernel
theorem dX1_old_42 : decode cX1_old 42 = .ok (.aload_n 0, 1) := by decide +kernel
theorem dX1_old_43 : decode cX1_old 43 = .ok (.getfield 44, 3) := by decide +kernel
theorem dX1_old_46 : decode cX1_old 46 = .ok (.if_icmp .lt 10, 3) := by decide +kernel
theorem dX1_old_49 : decode cX1_old 49 = .ok (.iconst 1, 1) := by decide +kernel
theorem dX1_old_50 : decode cX1_old 50 = .ok (.iload 4, 2) := by decide +kernel
theorem dX1_old_52 : decode cX1_old 52 = .ok (.ishl, 1) := by decide +kernel
theorem dX1_old_53 : decode cX1_old 53 = .ok (.goto 4, 3) := by decide +kernel
theorem dX1_old_56 : decode cX1_old 56 = .ok (.iconst 0, 1) := by decide +kernel
theorem dX1_old_57 : decode cX1_old 57 = .ok (.ior, 1) := by decide +kernel
theorem dX1_old_58 : decode cX1_old 58 = .ok (.istore_n 3, 1) := by decide +kernel
theorem dX1_old_59 : decode cX1_old 59 = .ok (.iinc 4 1, 3) := by decide +kernel
theorem dX1_old_62 : decode cX1_old 62 = .ok (.goto (-57), 3) := by decide +kernel
theorem dX1_old_65 : decode cX1_old 65 = .ok (.iload_n 3, 1) := by decide +kernel
theorem dX1_old_66 : decode cX1_old 66 = .ok (.ireturn, 1) := by decide +kernel
set_option maxRecDepth 20000 in
theorem ggX1_nextQuarter_X1_holds : GoodIn wsX1_nextQuarter wsX1_holds := goodIn_r _ [7, 8, 23, 24, 25, 26, 27, 28, 29, 30, 31, 32, 33, 34, 35, 36, 37, 38] (by decide +kernel) (by decide +kernel)
set_option maxRecDepth 20000 in
theorem gX1_nextQuarter_X1_holds : GoodIn wsX1_nextQuarter (wsV RX1 71 RX1 yX1_holds wsX1_holds) := goodIn_app (goodIn_of _ (by decide +kernel)) ggX1_nextQuarter_X1_holds
set_option maxRecDepth 20000 in
theorem ggX1_nextQuarter_X1_old : GoodIn wsX1_nextQuarter wsX1_old := goodIn_r _ [12, 2, 13, 14, 15, 16, 17, 6, 18, 23, 24, 25, 26, 27, 28, 29, 30, 31, 32, 33, 34, 35, 36, 37, 38] (by decide +kernel) (by decide +kernel)
set_option maxRecDepth 20000 in
theorem gX1_nextQuarter_X1_old : GoodIn wsX1_nextQuarter (wsV RX1 82 RX1 yX1_old wsX1_old) := goodIn_app (goodIn_of _ (by decide +kernel)) ggX1_nextQuarter_X1_old
set_option maxRecDepth 20000 in
theorem ggX1_nextQuarter_X1_size : GoodIn wsX1_nextQuarter wsX1_size := goodIn_r _ [22] (by decide +kernel) (by decide +kernel)
set_option maxRecDepth 20000 in
theorem gX1_nextQuarter_X1_size : GoodIn wsX1_nextQuarter (wsV RX1 78 RX1 yX1_size wsX1_size) := goodIn_app (goodIn_of _ (by decide +kernel)) ggX1_nextQuarter_X1_size
theorem dX1_nextQuarter_0 : decode cX1_nextQuarter 0 = .ok (.aload_n 0, 1) := by decide +kernel
theorem dX1_nextQuarter_1 : decode cX1_nextQuarter 1 = .ok (.aload_n 0, 1) := by decide +kernel
theorem dX1_nextQuarter_2 : decode cX1_nextQuarter 2 = .ok (.getfield 61, 3) := by decide +kernel
theorem dX1_nextQuarter_5 : decode cX1_nextQuarter 5 = .ok (.bipush 100, 2) := by decide +kernel
theorem dX1_nextQuarter_7 : decode cX1_nextQuarter 7 = .ok (.if_icmp .ne 7, 3) := by decide +kernel
theorem dX1_nextQuarter_10 : decode cX1_nextQuarter 10 = .ok (.iconst 1, 1) := by decide +kernel
theorem dX1_nextQuarter_11 : decode cX1_nextQuarter 11 = .ok (.goto 4, 3) := by decide +kernel
theorem dX1_nextQuarter_14 : decode cX1_nextQuarter 14 = .ok (.iconst 0, 1) := by decide +kernel
theorem dX1_nextQuarter_15 : decode cX1_nextQuarter 15 = .ok (.invokevirtual 71, 3) := by decide +kernel
theorem dX1_nextQuarter_18 : decode cX1_nextQuarter 18 = .ok (.ifCond .eq 5, 3) := by decide +kernel
theorem dX1_nextQuarter_21 : decode cX1_nextQuarter 21 = .ok (.iconst (-1), 1) := by decide +kernel
theorem dX1_nextQuarter_22 : decode cX1_nextQuarter 22 = .ok (.ireturn, 1) := by decide +kernel
theorem dX1_nextQuarter_23 : decode cX1_nextQuarter 23 = .ok (.aload_n 0, 1) := by decide +kernel
theorem dX1_nextQuarter_24 : decode cX1_nextQuarter 24 = .ok (.dup, 1) := by decide +kernel
theorem dX1_nextQuarter_25 : decode cX1_nextQuarter 25 = .ok (.getfield 61, 3) := by decide +kernel
theorem dX1_nextQuarter_28 : decode cX1_nextQuarter 28 = .ok (.iconst 1, 1) := by decide +kernel
theorem dX1_nextQuarter_29 : decode cX1_nextQuarter 29 = .ok (.iadd, 1) := by decide +kernel
theorem dX1_nextQuarter_30 : decode cX1_nextQuarter 30 = .ok (.putfield 61, 3) := by decide +kernel
theorem dX1_nextQuarter_33 : decode cX1_nextQuarter 33 = .ok (.iconst 0, 1) := by decide +kernel
theorem dX1_nextQuarter_34 : decode cX1_nextQuarter 34 = .ok (.istore_n 1, 1) := by decide +kernel
theorem dX1_nextQuarter_35 : decode cX1_nextQuarter 35 = .ok (.iconst 0, 1) := by decide +kernel
theorem dX1_nextQuarter_36 : decode cX1_nextQuarter 36 = .ok (.istore_n 2, 1) := by decide +kernel
theorem dX1_nextQuarter_37 : decode cX1_nextQuarter 37 = .ok (.iload_n 2, 1) := by decide +kernel
theorem dX1_nextQuarter_38 : decode cX1_nextQuarter 38 = .ok (.bipush 8, 2) := by decide +kernel
theorem dX1_nextQuarter_40 : decode cX1_nextQuarter 40 = .ok (.if_icmp .ge 39, 3) := by decide +kernel
theorem dX1_nextQuarter_43 : decode cX1_nextQuarter 43 = .ok (.aload_n 0, 1) := by decide +kernel
theorem dX1_nextQuarter_44 : decode cX1_nextQuarter 44 = .ok (.iload_n 2, 1) := by decide +kernel
theorem dX1_nextQuarter_45 : decode cX1_nextQuarter 45 = .ok (.aload_n 0, 1) := by decide +kernel
theorem dX1_nextQuarter_46 : decode cX1_nextQuarter 46 = .ok (.getfield 61, 3) := by decide +kernel
theorem dX1_nextQuarter_49 : decode cX1_nextQuarter 49 = .ok (.invokevirtual 82, 3) := by decide +kernel
theorem dX1_nextQuarter_52 : decode cX1_nextQuarter 52 = .ok (.istore_n 3, 1) := by decide +kernel
theorem dX1_nextQuarter_53 : decode cX1_nextQuarter 53 = .ok (.iload_n 1, 1) := by decide +kernel
theorem dX1_nextQuarter_54 : decode cX1_nextQuarter 54 = .ok (.aload_n 0, 1) := by decide +kernel
theorem dX1_nextQuarter_55 : decode cX1_nextQuarter 55 = .ok (.iload_n 3, 1) := by decide +kernel
theorem dX1_nextQuarter_56 : decode cX1_nextQuarter 56 = .ok (.invokevirtual 78, 3) := by decide +kernel
theorem dX1_nextQuarter_59 : decode cX1_nextQuarter 59 = .ok (.iadd, 1) := by decide +kernel
theorem dX1_nextQuarter_60 : decode cX1_nextQuarter 60 = .ok (.istore_n 1, 1) := by decide +kernel
theorem dX1_nextQuarter_61 : decode cX1_nextQuarter 61 = .ok (.aload_n 0, 1) := by decide +kernel
theorem dX1_nextQuarter_62 : decode cX1_nextQuarter 62 = .ok (.getfield 7, 3) := by decide +kernel
theorem dX1_nextQuarter_65 : decode cX1_nextQuarter 65 = .ok (.iload_n 2, 1) := by decide +kernel
theorem dX1_nextQuarter_66 : decode cX1_nextQuarter 66 = .ok (.dup2, 1) := by decide +kernel
theorem dX1_nextQuarter_67 : decode cX1_nextQuarter 67 = .ok (.iaload, 1) := by decide +kernel
theorem dX1_nextQuarter_68 : decode cX1_nextQuarter 68 = .ok (.iload_n 3, 1) := by decide +kernel
theorem dX1_nextQuarter_69 : decode cX1_nextQuarter 69 = .ok (.iconst (-1), 1) := by decide +kernel
theorem dX1_nextQuarter_70 : decode cX1_nextQuarter 70 = .ok (.ixor, 1) := by decide +kernel
theorem dX1_nextQuarter_71 : decode cX1_nextQuarter 71 = .ok (.iand, 1) := by decide +kernel
theorem dX1_nextQuarter_72 : decode cX1_nextQuarter 72 = .ok (.iastore, 1) := by decide +kernel
theorem dX1_nextQuarter_73 : decode cX1_nextQuarter 73 = .ok (.iinc 2 1, 3) := by decide +kernel
theorem dX1_nextQuarter_76 : decode cX1_nextQuarter 76 = .ok (.goto (-39), 3) := by decide +kernel
theorem dX1_nextQuarter_79 : decode cX1_nextQuarter 79 = .ok (.iload_n 1, 1) := by decide +kernel
theorem dX1_nextQuarter_80 : decode cX1_nextQuarter 80 = .ok (.ireturn, 1) := by decide +kernel
set_option maxRecDepth 20000 in
theorem ggX1_find_X1_isIn : GoodIn wsX1_find wsX1_isIn := goodIn_r _ [10] (by decide +kernel) (by decide +kernel)
set_option maxRecDepth 20000 in
theorem gX1_find_X1_isIn : GoodIn wsX1_find (wsV RX1 54 RX1 yX1_isIn wsX1_isIn) := goodIn_app (goodIn_of _ (by decide +kernel)) ggX1_find_X1_isIn
set_option maxRecDepth 20000 in
theorem ggX1_find_X1_isProper : GoodIn wsX1_find wsX1_isProper := goodIn_r _ [14, 15, 6, 7, 8, 9, 10, 28, 29, 30, 31, 32, 33, 34, 35, 36, 37, 38, 39, 40, 41, 42, 43] (by decide +kernel) (by decide +kernel)
set_option maxRecDepth 20000 in
theorem gX1_find_X1_isProper : GoodIn wsX1_find (wsV RX1 89 RX1 yX1_isProper wsX1_isProper) := goodIn_app (goodIn_of _ (by decide +kernel)) ggX1_find_X1_isProper
set_option maxRecDepth 20000 in
theorem ggX1_find_X1_whoHas : GoodIn wsX1_find wsX1_whoHas := goodIn_r _ [19, 20, 21, 22, 9, 23, 2, 28, 29, 30, 31, 32, 33, 34, 35, 36, 37, 38, 39, 40, 41, 42, 43] (by decide +kernel) (by decide +kernel)
set_option maxRecDepth 20000 in
theorem gX1_find_X1_whoHas : GoodIn wsX1_find (wsV RX1 92 RX1 yX1_whoHas wsX1_whoHas) := goodIn_app (goodIn_of _ (by decide +kernel)) ggX1_find_X1_whoHas
set_option maxRecDepth 20000 in
theorem ggX1_find_X1_size : GoodIn wsX1_find wsX1_size := goodIn_r _ [27] (by decide +kernel) (by decide +kernel)
set_option maxRecDepth 20000 in
theorem gX1_find_X1_size : GoodIn wsX1_find (wsV RX1 78 RX1 yX1_size wsX1_size) := goodIn_app (goodIn_of _ (by decide +kernel)) ggX1_find_X1_size
theorem dX1_find_0 : decode cX1_find 0 = .ok (.iconst 0, 1) := by decide +kernel
theorem dX1_find_1 : decode cX1_find 1 = .ok (.istore_n 1, 1) := by decide +kernel
theorem dX1_find_2 : decode cX1_find 2 = .ok (.iload_n 1, 1) := by decide +kernel
theorem dX1_find_3 : decode cX1_find 3 = .ok (.sipush 4096, 3) := by decide +kernel
theorem dX1_find_6 : decode cX1_find 6 = .ok (.if_icmp .ge 16, 3) := by decide +kernel
theorem dX1_find_9 : decode cX1_find 9 = .ok (.aload_n 0, 1) := by decide +kernel
theorem dX1_find_10 : decode cX1_find 10 = .ok (.getfield 25, 3) := by decide +kernel
theorem dX1_find_13 : decode cX1_find 13 = .ok (.iload_n 1, 1) := by decide +kernel
theorem dX1_find_14 : decode cX1_find 14 = .ok (.iconst 0, 1) := by decide +kernel
theorem dX1_find_15 : decode cX1_find 15 = .ok (.iastore, 1) := by decide +kernel
theorem dX1_find_16 : decode cX1_find 16 = .ok (.iinc 1 1, 3) := by decide +kernel
theorem dX1_find_19 : decode cX1_find 19 = .ok (.goto (-17), 3) := by decide +kernel
theorem dX1_find_22 : decode cX1_find 22 = .ok (.iconst 1, 1) := by decide +kernel
theorem dX1_find_23 : decode cX1_find 23 = .ok (.istore_n 1, 1) := by decide +kernel
theorem dX1_find_24 : decode cX1_find 24 = .ok (.iload_n 1, 1) := by decide +kernel
theorem dX1_find_25 : decode cX1_find 25 = .ok (.sipush 256, 3) := by decide +kernel
theorem dX1_find_28 : decode cX1_find 28 = .ok (.if_icmp .ge 58, 3) := by decide +kernel
theorem dX1_find_31 : decode cX1_find 31 = .ok (.sipush 4095, 3) := by decide +kernel
theorem dX1_find_34 : decode cX1_find 34 = .ok (.istore_n 2, 1) := by decide +kernel
theorem dX1_find_35 : decode cX1_find 35 = .ok (.iconst 0, 1) := by decide +kernel
theorem dX1_find_36 : decode cX1_find 36 = .ok (.istore_n 3, 1) := by decide +kernel
theorem dX1_find_37 : decode cX1_find 37 = .ok (.iload_n 3, 1) := by decide +kernel
theorem dX1_find_38 : decode cX1_find 38 = .ok (.bipush 8, 2) := by decide +kernel
theorem dX1_find_40 : decode cX1_find 40 = .ok (.if_icmp .ge 33, 3) := by decide +kernel
theorem dX1_find_43 : decode cX1_find 43 = .ok (.iload_n 2, 1) := by decide +kernel
theorem dX1_find_44 : decode cX1_find 44 = .ok (.aload_n 0, 1) := by decide +kernel
theorem dX1_find_45 : decode cX1_find 45 = .ok (.iload_n 1, 1) := by decide +kernel
theorem dX1_find_46 : decode cX1_find 46 = .ok (.iload_n 3, 1) := by decide +kernel
theorem dX1_find_47 : decode cX1_find 47 = .ok (.invokevirtual 54, 3) := by decide +kernel
theorem dX1_find_50 : decode cX1_find 50 = .ok (.ifCond .eq 12, 3) := by decide +kernel
theorem dX1_find_53 : decode cX1_find 53 = .ok (.aload_n 0, 1) := by decide +kernel
theorem dX1_find_54 : decode cX1_find 54 = .ok (.getfield 7, 3) := by decide +kernel
theorem dX1_find_57 : decode cX1_find 57 = .ok (.iload_n 3, 1) := by decide +kernel
theorem dX1_find_58 : decode cX1_find 58 = .ok (.iaload, 1) := by decide +kernel
theorem dX1_find_59 : decode cX1_find 59 = .ok (.goto 6, 3) := by decide +kernel
theorem dX1_find_62 : decode cX1_find 62 = .ok (.sipush 4095, 3) := by decide +kernel
theorem dX1_find_65 : decode cX1_find 65 = .ok (.iand, 1) := by decide +kernel
theorem dX1_find_66 : decode cX1_find 66 = .ok (.istore_n 2, 1) := by decide +kernel
theorem dX1_find_67 : decode cX1_find 67 = .ok (.iinc 3 1, 3) := by decide +kernel
theorem dX1_find_70 : decode cX1_find 70 = .ok (.goto (-33), 3) := by decide +kernel
theorem dX1_find_73 : decode cX1_find 73 = .ok (.aload_n 0, 1) := by decide +kernel
theorem dX1_find_74 : decode cX1_find 74 = .ok (.getfield 25, 3) := by decide +kernel
theorem dX1_find_77 : decode cX1_find 77 = .ok (.iload_n 2, 1) := by decide +kernel
theorem dX1_find_78 : decode cX1_find 78 = .ok (.iconst 1, 1) := by decide +kernel
theorem dX1_find_79 : decode cX1_find 79 = .ok (.iastore, 1) := by decide +kernel
theorem dX1_find_80 : decode cX1_find 80 = .ok (.iinc 1 1, 3) := by decide +kernel
theorem dX1_find_83 : decode cX1_find 83 = .ok (.goto (-59), 3) := by decide +kernel
theorem dX1_find_86 : decode cX1_find 86 = .ok (.aload_n 0, 1) := by decide +kernel
theorem dX1_find_87 : decode cX1_find 87 = .ok (.iconst 0, 1) := by decide +kernel
theorem dX1_find_88 : decode cX1_find 88 = .ok (.putfield 86, 3) := by decide +kernel
theorem dX1_find_91 : decode cX1_find 91 = .ok (.iconst 1, 1) := by decide +kernel
theorem dX1_find_92 : decode cX1_find 92 = .ok (.istore_n 1, 1) := by decide +kernel
theorem dX1_find_93 : decode cX1_find 93 = .ok (.iload_n 1, 1) := by decide +kernel
theorem dX1_find_94 : decode cX1_find 94 = .ok (.sipush 4096, 3) := by decide +kernel
theorem dX1_find_97 : decode cX1_find 97 = .ok (.if_icmp .ge 63, 3) := by decide +kernel
theorem dX1_find_100 : decode cX1_find 100 = .ok (.aload_n 0, 1) := by decide +kernel
theorem dX1_find_101 : decode cX1_find 101 = .ok (.getfield 25, 3) := by decide +kernel
theorem dX1_find_104 : decode cX1_find 104 = .ok (.iload_n 1, 1) := by decide +kernel
theorem dX1_find_105 : decode cX1_find 105 = .ok (.iaload, 1) := by decide +kernel
theorem dX1_find_106 : decode cX1_find 106 = .ok (.iconst 1, 1) := by decide +kernel
theorem dX1_find_107 : decode cX1_find 107 = .ok (.if_icmp .ne 47, 3) := by decide +kernel
theorem dX1_find_110 : decode cX1_find 110 = .ok (.aload_n 0, 1) := by decide +kernel
theorem dX1_find_111 : decode cX1_find 111 = .ok (.iload_n 1, 1) := by decide +kernel
theorem dX1_find_112 : decode cX1_find 112 = .ok (.invokevirtual 89, 3) := by decide +kernel
theorem dX1_find_115 : decode cX1_find 115 = .ok (.ifCond .eq 39, 3) := by decide +kernel
theorem dX1_find_118 : decode cX1_find 118 = .ok (.aload_n 0, 1) := by decide +kernel
theorem dX1_find_119 : decode cX1_find 119 = .ok (.aload_n 0, 1) := by decide +kernel
theorem dX1_find_120 : decode cX1_find 120 = .ok (.iload_n 1, 1) := by decide +kernel
theorem dX1_find_121 : decode cX1_find 121 = .ok (.invokevirtual 92, 3) := by decide +kernel
theorem dX1_find_124 : decode cX1_find 124 = .ok (.invokevirtual 78, 3) := by decide +kernel
theorem dX1_find_127 : decode cX1_find 127 = .ok (.aload_n 0, 1) := by decide +kernel
theorem dX1_find_128 : decode cX1_find 128 = .ok (.getfield 41, 3) := by decide +kernel
theorem dX1_find_131 : decode cX1_find 131 = .ok (.if_icmp .lt 23, 3) := by decide +kernel
theorem dX1_find_134 : decode cX1_find 134 = .ok (.aload_n 0, 1) := by decide +kernel
theorem dX1_find_135 : decode cX1_find 135 = .ok (.getfield 22, 3) := by decide +kernel
theorem dX1_find_138 : decode cX1_find 138 = .ok (.aload_n 0, 1) := by decide +kernel
theorem dX1_find_139 : decode cX1_find 139 = .ok (.getfield 86, 3) := by decide +kernel
theorem dX1_find_142 : decode cX1_find 142 = .ok (.iload_n 1, 1) := by decide +kernel
theorem dX1_find_143 : decode cX1_find 143 = .ok (.iastore, 1) := by decide +kernel
theorem dX1_find_144 : decode cX1_find 144 = .ok (.aload_n 0, 1) := by decide +kernel
theorem dX1_find_145 : decode cX1_find 145 = .ok (.dup, 1) := by decide +kernel
theorem dX1_find_146 : decode cX1_find 146 = .ok (.getfield 86, 3) := by decide +kernel
theorem dX1_find_149 : decode cX1_find 149 = .ok (.iconst 1, 1) := by decide +kernel
theorem dX1_find_150 : decode cX1_find 150 = .ok (.iadd, 1) := by decide +kernel
theorem dX1_find_151 : decode cX1_find 151 = .ok (.putfield 86, 3) := by decide +kernel
theorem dX1_find_154 : decode cX1_find 154 = .ok (.iinc 1 1, 3) := by decide +kernel
theorem dX1_find_157 : decode cX1_find 157 = .ok (.goto (-64), 3) := by decide +kernel
theorem dX1_find_160 : decode cX1_find 160 = .ok (.return_, 1) := by decide +kernel
theorem dX1_uncover_0 : decode cX1_uncover 0 = .ok (.iconst 0, 1) := by decide +kernel
theorem dX1_uncover_1 : decode cX1_uncover 1 = .ok (.istore_n 1, 1) := by decide +kernel
theorem dX1_uncover_2 : decode cX1_uncover 2 = .ok (.iload_n 1, 1) := by decide +kernel
theorem dX1_uncover_3 : decode cX1_uncover 3 = .ok (.bipush 8, 2) := by decide +kernel
theorem dX1_uncover_5 : decode cX1_uncover 5 = .ok (.if_icmp .ge 16, 3) := by decide +kernel
theorem dX1_uncover_8 : decode cX1_uncover 8 = .ok (.aload_n 0, 1) := by decide +kernel
theorem dX1_uncover_9 : decode cX1_uncover 9 = .ok (.getfield 28, 3) := by decide +kernel
theorem dX1_uncover_12 : decode cX1_uncover 12 = .ok (.iload_n 1, 1) := by decide +kernel
theorem dX1_uncover_13 : decode cX1_uncover 13 = .ok (.iconst 0, 1) := by decide +kernel
theorem dX1_uncover_14 : decode cX1_uncover 14 = .ok (.iastore, 1) := by decide +kernel
theorem dX1_uncover_15 : decode cX1_uncover 15 = .ok (.iinc 1 1, 3) := by decide +kernel
theorem dX1_uncover_18 : decode cX1_uncover 18 = .ok (.goto (-16), 3) := by decide +kernel
theorem dX1_uncover_21 : decode cX1_uncover 21 = .ok (.return_, 1) := by decide +kernel
set_option maxRecDepth 20000 in
theorem ggX1_add_X1_isWithin : GoodIn wsX1_add wsX1_isWithin := goodIn_r _ [6, 7, 8, 9, 10, 11, 12, 13, 14, 15, 16, 17, 18, 19, 20, 21, 22, 23] (by decide +kernel) (by decide +kernel)
set_option maxRecDepth 20000 in
theorem gX1_add_X1_isWithin : GoodIn wsX1_add (wsV RX1 58 RX1 yX1_isWithin wsX1_isWithin) := goodIn_app (goodIn_of _ (by decide +kernel)) ggX1_add_X1_isWithin
theorem dX1_add_0 : decode cX1_add 0 = .ok (.iconst 0, 1) := by decide +kernel
theorem dX1_add_1 : decode cX1_add 1 = .ok (.istore_n 2, 1) := by decide +kernel
theorem dX1_add_2 : decode cX1_add 2 = .ok (.iload_n 2, 1) := by decide +kernel
theorem dX1_add_3 : decode cX1_add 3 = .ok (.bipush 8, 2) := by decide +kernel
theorem dX1_add_5 : decode cX1_add 5 = .ok (.if_icmp .ge 32, 3) := by decide +kernel
theorem dX1_add_8 : decode cX1_add 8 = .ok (.aload_n 0, 1) := by decide +kernel
theorem dX1_add_9 : decode cX1_add 9 = .ok (.getfield 28, 3) := by decide +kernel
theorem dX1_add_12 : decode cX1_add 12 = .ok (.iload_n 2, 1) := by decide +kernel
theorem dX1_add_13 : decode cX1_add 13 = .ok (.dup2, 1) := by decide +kernel
theorem dX1_add_14 : decode cX1_add 14 = .ok (.iaload, 1) := by decide +kernel
theorem dX1_add_15 : decode cX1_add 15 = .ok (.aload_n 0, 1) := by decide +kernel
theorem dX1_add_16 : decode cX1_add 16 = .ok (.iload_n 1, 1) := by decide +kernel
theorem dX1_add_17 : decode cX1_add 17 = .ok (.iload_n 2, 1) := by decide +kernel
theorem dX1_add_18 : decode cX1_add 18 = .ok (.invokevirtual 58, 3) := by decide +kernel
theorem dX1_add_21 : decode cX1_add 21 = .ok (.ifCond .eq 7, 3) := by decide +kernel
theorem dX1_add_24 : decode cX1_add 24 = .ok (.iload_n 1, 1) := by decide +kernel
theorem dX1_add_25 : decode cX1_add 25 = .ok (.goto 4, 3) := by decide +kernel
theorem dX1_add_28 : decode cX1_add 28 = .ok (.iconst 0, 1) := by decide +kernel
theorem dX1_add_29 : decode cX1_add 29 = .ok (.ior, 1) := by decide +kernel
theorem dX1_add_30 : decode cX1_add 30 = .ok (.iastore, 1) := by decide +kernel
theorem dX1_add_31 : decode cX1_add 31 = .ok (.iinc 2 1, 3) := by decide +kernel
theorem dX1_add_34 : decode cX1_add 34 = .ok (.goto (-32), 3) := by decide +kernel
theorem dX1_add_37 : decode cX1_add 37 = .ok (.return_, 1) := by decide +kernel
set_option maxRecDepth 20000 in
theorem ggX1_uncovered_X1_size : GoodIn wsX1_uncovered wsX1_size := goodIn_r _ [7] (by decide +kernel) (by decide +kernel)
set_option maxRecDepth 20000 in
theorem gX1_uncovered_X1_size : GoodIn wsX1_uncovered (wsV RX1 78 RX1 yX1_size wsX1_size) := goodIn_app (goodIn_of _ (by decide +kernel)) ggX1_uncovered_X1_size
theorem dX1_uncovered_0 : decode cX1_uncovered 0 = .ok (.iconst 0, 1) := by decide +kernel
theorem dX1_uncovered_1 : decode cX1_uncovered 1 = .ok (.istore_n 1, 1) := by decide +kernel
theorem dX1_uncovered_2 : decode cX1_uncovered 2 = .ok (.iconst 0, 1) := by decide +kernel
theorem dX1_uncovered_3 : decode cX1_uncovered 3 = .ok (.istore_n 2, 1) := by decide +kernel
theorem dX1_uncovered_4 : decode cX1_uncovered 4 = .ok (.iload_n 2, 1) := by decide +kernel
theorem dX1_uncovered_5 : decode cX1_uncovered 5 = .ok (.bipush 8, 2) := by decide +kernel
theorem dX1_uncovered_7 : decode cX1_uncovered 7 = .ok (.if_icmp .ge 31, 3) := by decide +kernel
theorem dX1_uncovered_10 : decode cX1_uncovered 10 = .ok (.iload_n 1, 1) := by decide +kernel
theorem dX1_uncovered_11 : decode cX1_uncovered 11 = .ok (.aload_n 0, 1) := by decide +kernel
theorem dX1_uncovered_12 : decode cX1_uncovered 12 = .ok (.aload_n 0, 1) := by decide +kernel
theorem dX1_uncovered_13 : decode cX1_uncovered 13 = .ok (.getfield 7, 3) := by decide +kernel
theorem dX1_uncovered_16 : decode cX1_uncovered 16 = .ok (.iload_n 2, 1) := by decide +kernel
theorem dX1_uncovered_17 : decode cX1_uncovered 17 = .ok (.iaload, 1) := by decide +kernel
theorem dX1_uncovered_18 : decode cX1_uncovered 18 = .ok (.aload_n 0, 1) := by decide +kernel
theorem dX1_uncovered_19 : decode cX1_uncovered 19 = .ok (.getfield 28, 3) := by decide +kernel
theorem dX1_uncovered_22 : decode cX1_uncovered 22 = .ok (.iload_n 2, 1) := by decide +kernel
theorem dX1_uncovered_23 : decode cX1_uncovered 23 = .ok (.iaload, 1) := by decide +kernel
theorem dX1_uncovered_24 : decode cX1_uncovered 24 = .ok (.iconst (-1), 1) := by decide +kernel
theorem dX1_uncovered_25 : decode cX1_uncovered 25 = .ok (.ixor, 1) := by decide +kernel
theorem dX1_uncovered_26 : decode cX1_uncovered 26 = .ok (.iand, 1) := by decide +kernel
theorem dX1_uncovered_27 : decode cX1_uncovered 27 = .ok (.invokevirtual 78, 3) := by decide +kernel
theorem dX1_uncovered_30 : decode cX1_uncovered 30 = .ok (.iadd, 1) := by decide +kernel
theorem dX1_uncovered_31 : decode cX1_uncovered 31 = .ok (.istore_n 1, 1) := by decide +kernel
theorem dX1_uncovered_32 : decode cX1_uncovered 32 = .ok (.iinc 2 1, 3) := by decide +kernel
theorem dX1_uncovered_35 : decode cX1_uncovered 35 = .ok (.goto (-31), 3) := by decide +kernel
theorem dX1_uncovered_38 : decode cX1_uncovered 38 = .ok (.iload_n 1, 1) := by decide +kernel
theorem dX1_uncovered_39 : decode cX1_uncovered 39 = .ok (.ireturn, 1) := by decide +kernel
set_option maxRecDepth 20000 in
theorem ggX1_gain_X1_isWithin : GoodIn wsX1_gain wsX1_isWithin := goodIn_r _ [6, 7, 12, 13, 14, 15, 16, 17, 18, 19, 20, 21, 22, 23, 24, 25, 26, 27] (by decide +kernel) (by decide +kernel)
set_option maxRecDepth 20000 in
theorem gX1_gain_X1_isWithin : GoodIn wsX1_gain (wsV RX1 58 RX1 yX1_isWithin wsX1_isWithin) := goodIn_app (goodIn_of _ (by decide +kernel)) ggX1_gain_X1_isWithin
set_option maxRecDepth 20000 in
theorem ggX1_gain_X1_size : GoodIn wsX1_gain wsX1_size := goodIn_r _ [11] (by decide +kernel) (by decide +kernel)
set_option maxRecDepth 20000 in
theorem gX1_gain_X1_size : GoodIn wsX1_gain (wsV RX1 78 RX1 yX1_size wsX1_size) := goodIn_app (goodIn_of _ (by decide +kernel)) ggX1_gain_X1_size
theorem dX1_gain_0 : decode cX1_gain 0 = .ok (.iconst 0, 1) := by decide +kernel
theorem dX1_gain_1 : decode cX1_gain 1 = .ok (.istore_n 2, 1) := by decide +kernel
theorem dX1_gain_2 : decode cX1_gain 2 = .ok (.iconst 0, 1) := by decide +kernel
theorem dX1_gain_3 : decode cX1_gain 3 = .ok (.istore_n 3, 1) := by decide +kernel
theorem dX1_gain_4 : decode cX1_gain 4 = .ok (.iload_n 3, 1) := by decide +kernel
theorem dX1_gain_5 : decode cX1_gain 5 = .ok (.bipush 8, 2) := by decide +kernel
theorem dX1_gain_7 : decode cX1_gain 7 = .ok (.if_icmp .ge 39, 3) := by decide +kernel
theorem dX1_gain_10 : decode cX1_gain 10 = .ok (.iload_n 2, 1) := by decide +kernel
theorem dX1_gain_11 : decode cX1_gain 11 = .ok (.aload_n 0, 1) := by decide +kernel
theorem dX1_gain_12 : decode cX1_gain 12 = .ok (.iload_n 1, 1) := by decide +kernel
theorem dX1_gain_13 : decode cX1_gain 13 = .ok (.iload_n 3, 1) := by decide +kernel
theorem dX1_gain_14 : decode cX1_gain 14 = .ok (.invokevirtual 58, 3) := by decide +kernel
theorem dX1_gain_17 : decode cX1_gain 17 = .ok (.ifCond .eq 20, 3) := by decide +kernel
theorem dX1_gain_20 : decode cX1_gain 20 = .ok (.aload_n 0, 1) := by decide +kernel
theorem dX1_gain_21 : decode cX1_gain 21 = .ok (.iload_n 1, 1) := by decide +kernel
theorem dX1_gain_22 : decode cX1_gain 22 = .ok (.aload_n 0, 1) := by decide +kernel
theorem dX1_gain_23 : decode cX1_gain 23 = .ok (.getfield 28, 3) := by decide +kernel
theorem dX1_gain_26 : decode cX1_gain 26 = .ok (.iload_n 3, 1) := by decide +kernel
theorem dX1_gain_27 : decode cX1_gain 27 = .ok (.iaload, 1) := by decide +kernel
theorem dX1_gain_28 : decode cX1_gain 28 = .ok (.iconst (-1), 1) := by decide +kernel
theorem dX1_gain_29 : decode cX1_gain 29 = .ok (.ixor, 1) := by decide +kernel
theorem dX1_gain_30 : decode cX1_gain 30 = .ok (.iand, 1) := by decide +kernel
theorem dX1_gain_31 : decode cX1_gain 31 = .ok (.invokevirtual 78, 3) := by decide +kernel
theorem dX1_gain_34 : decode cX1_gain 34 = .ok (.goto 4, 3) := by decide +kernel
theorem dX1_gain_37 : decode cX1_gain 37 = .ok (.iconst 0, 1) := by decide +kernel
theorem dX1_gain_38 : decode cX1_gain 38 = .ok (.iadd, 1) := by decide +kernel
theorem dX1_gain_39 : decode cX1_gain 39 = .ok (.istore_n 2, 1) := by decide +kernel
theorem dX1_gain_40 : decode cX1_gain 40 = .ok (.iinc 3 1, 3) := by decide +kernel
theorem dX1_gain_43 : decode cX1_gain 43 = .ok (.goto (-39), 3) := by decide +kernel
theorem dX1_gain_46 : decode cX1_gain 46 = .ok (.iload_n 2, 1) := by decide +kernel
theorem dX1_gain_47 : decode cX1_gain 47 = .ok (.ireturn, 1) := by decide +kernel
set_option maxRecDepth 20000 in
theorem ggX1_price_X1_uncover : GoodIn wsX1_price wsX1_uncover := goodIn_r _ [9, 10, 32, 33, 34, 35, 36, 37, 38, 39, 40, 41, 42, 43, 44, 45, 46, 47] (by decide +kernel) (by decide +kernel)
set_option maxRecDepth 20000 in
theorem gX1_price_X1_uncover : GoodIn wsX1_price (wsV RX1 95 RX1 yX1_uncover wsX1_uncover) := goodIn_app (goodIn_of _ (by decide +kernel)) ggX1_price_X1_uncover
set_option maxRecDepth 20000 in
theorem ggX1_price_X1_isIn : GoodIn wsX1_price wsX1_isIn := goodIn_r _ [14] (by decide +kernel) (by decide +kernel)
set_option maxRecDepth 20000 in
theorem gX1_price_X1_isIn : GoodIn wsX1_price (wsV RX1 54 RX1 yX1_isIn wsX1_isIn) := goodIn_app (goodIn_of _ (by decide +kernel)) ggX1_price_X1_isIn
set_option maxRecDepth 20000 in
theorem ggX1_price_X1_add : GoodIn wsX1_price wsX1_add := goodIn_r _ [18, 10, 19, 20, 21, 8, 22, 23, 32, 33, 34, 35, 36, 37, 38, 39, 40, 41, 42, 43, 44, 45, 46, 47] (by decide +kernel) (by decide +kernel)
set_option maxRecDepth 20000 in
theorem gX1_price_X1_add : GoodIn wsX1_price (wsV RX1 98 RX1 yX1_add wsX1_add) := goodIn_app (goodIn_of _ (by decide +kernel)) ggX1_price_X1_add
set_option maxRecDepth 20000 in
theorem ggX1_price_X1_size : GoodIn wsX1_price wsX1_size := goodIn_r _ [27] (by decide +kernel) (by decide +kernel)
set_option maxRecDepth 20000 in
theorem gX1_price_X1_size : GoodIn wsX1_price (wsV RX1 78 RX1 yX1_size wsX1_size) := goodIn_app (goodIn_of _ (by decide +kernel)) ggX1_price_X1_size
set_option maxRecDepth 20000 in
theorem ggX1_price_X1_uncovered : GoodIn wsX1_price wsX1_uncovered := goodIn_r _ [31, 23, 10, 24, 25, 26, 8, 27, 32, 33, 34, 35, 36, 37, 38, 39, 40, 41, 42, 43, 44, 45, 46, 47] (by decide +kernel) (by decide +kernel)
set_option maxRecDepth 20000 in
theorem gX1_price_X1_uncovered : GoodIn wsX1_price (wsV RX1 102 RX1 yX1_uncovered wsX1_uncovered) := goodIn_app (goodIn_of _ (by decide +kernel)) ggX1_price_X1_uncovered
theorem dX1_price_0 : decode cX1_price 0 = .ok (.aload_n 0, 1) := by decide +kernel
theorem dX1_price_1 : decode cX1_price 1 = .ok (.invokevirtual 95, 3) := by decide +kernel
theorem dX1_price_4 : decode cX1_price 4 = .ok (.iconst 0, 1) := by decide +kernel
theorem dX1_price_5 : decode cX1_price 5 = .ok (.istore_n 2, 1) := by decide +kernel
theorem dX1_price_6 : decode cX1_price 6 = .ok (.iload_n 2, 1) := by decide +kernel
theorem dX1_price_7 : decode cX1_price 7 = .ok (.aload_n 0, 1) := by decide +kernel
theorem dX1_price_8 : decode cX1_price 8 = .ok (.getfield 86, 3) := by decide +kernel
theorem dX1_price_11 : decode cX1_price 11 = .ok (.if_icmp .ge 28, 3) := by decide +kernel
theorem dX1_price_14 : decode cX1_price 14 = .ok (.aload_n 0, 1) := by decide +kernel
theorem dX1_price_15 : decode cX1_price 15 = .ok (.iload_n 1, 1) := by decide +kernel
theorem dX1_price_16 : decode cX1_price 16 = .ok (.iload_n 2, 1) := by decide +kernel
theorem dX1_price_17 : decode cX1_price 17 = .ok (.invokevirtual 54, 3) := by decide +kernel
theorem dX1_price_20 : decode cX1_price 20 = .ok (.ifCond .eq 13, 3) := by decide +kernel
theorem dX1_price_23 : decode cX1_price 23 = .ok (.aload_n 0, 1) := by decide +kernel
theorem dX1_price_24 : decode cX1_price 24 = .ok (.aload_n 0, 1) := by decide +kernel
theorem dX1_price_25 : decode cX1_price 25 = .ok (.getfield 22, 3) := by decide +kernel
theorem dX1_price_28 : decode cX1_price 28 = .ok (.iload_n 2, 1) := by decide +kernel
theorem dX1_price_29 : decode cX1_price 29 = .ok (.iaload, 1) := by decide +kernel
theorem dX1_price_30 : decode cX1_price 30 = .ok (.invokevirtual 98, 3) := by decide +kernel
theorem dX1_price_33 : decode cX1_price 33 = .ok (.iinc 2 1, 3) := by decide +kernel
theorem dX1_price_36 : decode cX1_price 36 = .ok (.goto (-30), 3) := by decide +kernel
theorem dX1_price_39 : decode cX1_price 39 = .ok (.aload_n 0, 1) := by decide +kernel
theorem dX1_price_40 : decode cX1_price 40 = .ok (.getfield 34, 3) := by decide +kernel
theorem dX1_price_43 : decode cX1_price 43 = .ok (.aload_n 0, 1) := by decide +kernel
theorem dX1_price_44 : decode cX1_price 44 = .ok (.iload_n 1, 1) := by decide +kernel
theorem dX1_price_45 : decode cX1_price 45 = .ok (.invokevirtual 78, 3) := by decide +kernel
theorem dX1_price_48 : decode cX1_price 48 = .ok (.imul, 1) := by decide +kernel
theorem dX1_price_49 : decode cX1_price 49 = .ok (.aload_n 0, 1) := by decide +kernel
theorem dX1_price_50 : decode cX1_price 50 = .ok (.getfield 38, 3) := by decide +kernel
theorem dX1_price_53 : decode cX1_price 53 = .ok (.aload_n 0, 1) := by decide +kernel
theorem dX1_price_54 : decode cX1_price 54 = .ok (.invokevirtual 102, 3) := by decide +kernel
theorem dX1_price_57 : decode cX1_price 57 = .ok (.imul, 1) := by decide +kernel
theorem dX1_price_58 : decode cX1_price 58 = .ok (.iadd, 1) := by decide +kernel
theorem dX1_price_59 : decode cX1_price 59 = .ok (.ireturn, 1) := by decide +kernel
set_option maxRecDepth 20000 in
theorem ggX1_mineGreedily_X1_find : GoodIn wsX1_mineGreedily wsX1_find := goodIn_r _ [13, 14, 15, 2, 16, 5, 17, 18, 19, 12, 20, 21, 22, 23, 24, 25, 26, 27, 28, 29, 30, 31, 32, 33, 34, 35, 36, 37, 55, 56, 57, 58, 59, 60, 61, 62, 63, 64, 65, 66, 67, 68, 69, 70] (by decide +kernel) (by decide +kernel)
set_option maxRecDepth 20000 in
theorem gX1_mineGreedily_X1_find : GoodIn wsX1_mineGreedily (wsV RX1 106 RX1 yX1_find wsX1_find) := goodIn_app (goodIn_of _ (by decide +kernel)) ggX1_mineGreedily_X1_find
set_option maxRecDepth 20000 in
theorem ggX1_mineGreedily_X1_uncover : GoodIn wsX1_mineGreedily wsX1_uncover := goodIn_r _ [41, 42, 55, 56, 57, 58, 59, 60, 61, 62, 63, 64, 65, 66, 67, 68, 69, 70] (by decide +kernel) (by decide +kernel)
set_option maxRecDepth 20000 in
theorem gX1_mineGreedily_X1_uncover : GoodIn wsX1_mineGreedily (wsV RX1 95 RX1 yX1_uncover wsX1_uncover) := goodIn_app (goodIn_of _ (by decide +kernel)) ggX1_mineGreedily_X1_uncover
set_option maxRecDepth 20000 in
theorem ggX1_mineGreedily_X1_gain : GoodIn wsX1_mineGreedily wsX1_gain := goodIn_r _ [46, 42, 30, 31, 32, 12, 33, 15, 34, 35, 36, 37, 55, 56, 57, 58, 59, 60, 61, 62, 63, 64, 65, 66, 67, 68, 69, 70] (by decide +kernel) (by decide +kernel)
set_option maxRecDepth 20000 in
theorem gX1_mineGreedily_X1_gain : GoodIn wsX1_mineGreedily (wsV RX1 109 RX1 yX1_gain wsX1_gain) := goodIn_app (goodIn_of _ (by decide +kernel)) ggX1_mineGreedily_X1_gain
set_option maxRecDepth 20000 in
theorem ggX1_mineGreedily_X1_add : GoodIn wsX1_mineGreedily wsX1_add := goodIn_r _ [50, 42, 30, 31, 32, 12, 33, 15, 55, 56, 57, 58, 59, 60, 61, 62, 63, 64, 65, 66, 67, 68, 69, 70] (by decide +kernel) (by decide +kernel)
set_option maxRecDepth 20000 in
theorem gX1_mineGreedily_X1_add : GoodIn wsX1_mineGreedily (wsV RX1 98 RX1 yX1_add wsX1_add) := goodIn_app (goodIn_of _ (by decide +kernel)) ggX1_mineGreedily_X1_add
set_option maxRecDepth 20000 in
theorem ggX1_mineGreedily_X1_uncovered : GoodIn wsX1_mineGreedily wsX1_uncovered := goodIn_r _ [54, 15, 42, 34, 35, 36, 12, 37, 55, 56, 57, 58, 59, 60, 61, 62, 63, 64, 65, 66, 67, 68, 69, 70] (by decide +kernel) (by decide +kernel)
set_option maxRecDepth 20000 in
theorem gX1_mineGreedily_X1_uncovered : GoodIn wsX1_mineGreedily (wsV RX1 102 RX1 yX1_uncovered wsX1_uncovered) := goodIn_app (goodIn_of _ (by decide +kernel)) ggX1_mineGreedily_X1_uncovered
theorem dX1_mineGreedily_0 : decode cX1_mineGreedily 0 = .ok (.aload_n 0, 1) := by decide +kernel
theorem dX1_mineGreedily_1 : decode cX1_mineGreedily 1 = .ok (.iconst 0, 1) := by decide +kernel
theorem dX1_mineGreedily_2 : decode cX1_mineGreedily 2 = .ok (.putfield 47, 3) := by decide +kernel
theorem dX1_mineGreedily_5 : decode cX1_mineGreedily 5 = .ok (.aload_n 0, 1) := by decide +kernel
theorem dX1_mineGreedily_6 : decode cX1_mineGreedily 6 = .ok (.invokevirtual 106, 3) := by decide +kernel
theorem dX1_mineGreedily_9 : decode cX1_mineGreedily 9 = .ok (.aload_n 0, 1) := by decide +kernel
theorem dX1_mineGreedily_10 : decode cX1_mineGreedily 10 = .ok (.invokevirtual 95, 3) := by decide +kernel
theorem dX1_mineGreedily_13 : decode cX1_mineGreedily 13 = .ok (.iconst 0, 1) := by decide +kernel
theorem dX1_mineGreedily_14 : decode cX1_mineGreedily 14 = .ok (.istore_n 1, 1) := by decide +kernel
theorem dX1_mineGreedily_15 : decode cX1_mineGreedily 15 = .ok (.iload_n 1, 1) := by decide +kernel
theorem dX1_mineGreedily_16 : decode cX1_mineGreedily 16 = .ok (.aload_n 0, 1) := by decide +kernel
theorem dX1_mineGreedily_17 : decode cX1_mineGreedily 17 = .ok (.getfield 86, 3) := by decide +kernel
theorem dX1_mineGreedily_20 : decode cX1_mineGreedily 20 = .ok (.if_icmp .ge 16, 3) := by decide +kernel
theorem dX1_mineGreedily_23 : decode cX1_mineGreedily 23 = .ok (.aload_n 0, 1) := by decide +kernel
theorem dX1_mineGreedily_24 : decode cX1_mineGreedily 24 = .ok (.getfield 31, 3) := by decide +kernel
theorem dX1_mineGreedily_27 : decode cX1_mineGreedily 27 = .ok (.iload_n 1, 1) := by decide +kernel
theorem dX1_mineGreedily_28 : decode cX1_mineGreedily 28 = .ok (.iconst 0, 1) := by decide +kernel
theorem dX1_mineGreedily_29 : decode cX1_mineGreedily 29 = .ok (.iastore, 1) := by decide +kernel
theorem dX1_mineGreedily_30 : decode cX1_mineGreedily 30 = .ok (.iinc 1 1, 3) := by decide +kernel
theorem dX1_mineGreedily_33 : decode cX1_mineGreedily 33 = .ok (.goto (-18), 3) := by decide +kernel
theorem dX1_mineGreedily_36 : decode cX1_mineGreedily 36 = .ok (.iconst 0, 1) := by decide +kernel
theorem dX1_mineGreedily_37 : decode cX1_mineGreedily 37 = .ok (.istore_n 1, 1) := by decide +kernel
theorem dX1_mineGreedily_38 : decode cX1_mineGreedily 38 = .ok (.iconst 0, 1) := by decide +kernel
theorem dX1_mineGreedily_39 : decode cX1_mineGreedily 39 = .ok (.istore_n 2, 1) := by decide +kernel
theorem dX1_mineGreedily_40 : decode cX1_mineGreedily 40 = .ok (.iload_n 2, 1) := by decide +kernel
theorem dX1_mineGreedily_41 : decode cX1_mineGreedily 41 = .ok (.ifCond .lt 102, 3) := by decide +kernel
theorem dX1_mineGreedily_44 : decode cX1_mineGreedily 44 = .ok (.iconst (-1), 1) := by decide +kernel
theorem dX1_mineGreedily_45 : decode cX1_mineGreedily 45 = .ok (.istore_n 2, 1) := by decide +kernel
theorem dX1_mineGreedily_46 : decode cX1_mineGreedily 46 = .ok (.iconst 0, 1) := by decide +kernel
theorem dX1_mineGreedily_47 : decode cX1_mineGreedily 47 = .ok (.istore_n 3, 1) := by decide +kernel
theorem dX1_mineGreedily_48 : decode cX1_mineGreedily 48 = .ok (.iconst 0, 1) := by decide +kernel
theorem dX1_mineGreedily_49 : decode cX1_mineGreedily 49 = .ok (.istore 4, 2) := by decide +kernel
theorem dX1_mineGreedily_51 : decode cX1_mineGreedily 51 = .ok (.iload 4, 2) := by decide +kernel
theorem dX1_mineGreedily_53 : decode cX1_mineGreedily 53 = .ok (.aload_n 0, 1) := by decide +kernel
theorem dX1_mineGreedily_54 : decode cX1_mineGreedily 54 = .ok (.getfield 86, 3) := by decide +kernel
theorem dX1_mineGreedily_57 : decode cX1_mineGreedily 57 = .ok (.if_icmp .ge 59, 3) := by decide +kernel
theorem dX1_mineGreedily_60 : decode cX1_mineGreedily 60 = .ok (.aload_n 0, 1) := by decide +kernel
theorem dX1_mineGreedily_61 : decode cX1_mineGreedily 61 = .ok (.getfield 31, 3) := by decide +kernel
theorem dX1_mineGreedily_64 : decode cX1_mineGreedily 64 = .ok (.iload 4, 2) := by decide +kernel
theorem dX1_mineGreedily_66 : decode cX1_mineGreedily 66 = .ok (.iaload, 1) := by decide +kernel
theorem dX1_mineGreedily_67 : decode cX1_mineGreedily 67 = .ok (.iconst 1, 1) := by decide +kernel
theorem dX1_mineGreedily_68 : decode cX1_mineGreedily 68 = .ok (.if_icmp .ne 7, 3) := by decide +kernel
theorem dX1_mineGreedily_71 : decode cX1_mineGreedily 71 = .ok (.iconst 0, 1) := by decide +kernel
theorem dX1_mineGreedily_72 : decode cX1_mineGreedily 72 = .ok (.goto 24, 3) := by decide +kernel
theorem dX1_mineGreedily_75 : decode cX1_mineGreedily 75 = .ok (.aload_n 0, 1) := by decide +kernel
theorem dX1_mineGreedily_76 : decode cX1_mineGreedily 76 = .ok (.getfield 38, 3) := by decide +kernel
theorem dX1_mineGreedily_79 : decode cX1_mineGreedily 79 = .ok (.aload_n 0, 1) := by decide +kernel
theorem dX1_mineGreedily_80 : decode cX1_mineGreedily 80 = .ok (.aload_n 0, 1) := by decide +kernel
theorem dX1_mineGreedily_81 : decode cX1_mineGreedily 81 = .ok (.getfield 22, 3) := by decide +kernel
theorem dX1_mineGreedily_84 : decode cX1_mineGreedily 84 = .ok (.iload 4, 2) := by decide +kernel
theorem dX1_mineGreedily_86 : decode cX1_mineGreedily 86 = .ok (.iaload, 1) := by decide +kernel
theorem dX1_mineGreedily_87 : decode cX1_mineGreedily 87 = .ok (.invokevirtual 109, 3) := by decide +kernel
theorem dX1_mineGreedily_90 : decode cX1_mineGreedily 90 = .ok (.imul, 1) := by decide +kernel
theorem dX1_mineGreedily_91 : decode cX1_mineGreedily 91 = .ok (.aload_n 0, 1) := by decide +kernel
theorem dX1_mineGreedily_92 : decode cX1_mineGreedily 92 = .ok (.getfield 34, 3) := by decide +kernel
theorem dX1_mineGreedily_95 : decode cX1_mineGreedily 95 = .ok (.isub, 1) := by decide +kernel
theorem dX1_mineGreedily_96 : decode cX1_mineGreedily 96 = .ok (.istore 5, 2) := by decide +kernel
theorem dX1_mineGreedily_98 : decode cX1_mineGreedily 98 = .ok (.iload 5, 2) := by decide +kernel
theorem dX1_mineGreedily_100 : decode cX1_mineGreedily 100 = .ok (.iload_n 3, 1) := by decide +kernel
theorem dX1_mineGreedily_101 : decode cX1_mineGreedily 101 = .ok (.if_icmp .le 9, 3) := by decide +kernel
theorem dX1_mineGreedily_104 : decode cX1_mineGreedily 104 = .ok (.iload 5, 2) := by decide +kernel
theorem dX1_mineGreedily_106 : decode cX1_mineGreedily 106 = .ok (.istore_n 3, 1) := by decide +kernel
theorem dX1_mineGreedily_107 : decode cX1_mineGreedily 107 = .ok (.iload 4, 2) := by decide +kernel
theorem dX1_mineGreedily_109 : decode cX1_mineGreedily 109 = .ok (.istore_n 2, 1) := by decide +kernel
theorem dX1_mineGreedily_110 : decode cX1_mineGreedily 110 = .ok (.iinc 4 1, 3) := by decide +kernel
theorem dX1_mineGreedily_113 : decode cX1_mineGreedily 113 = .ok (.goto (-62), 3) := by decide +kernel
theorem dX1_mineGreedily_116 : decode cX1_mineGreedily 116 = .ok (.iload_n 2, 1) := by decide +kernel
theorem dX1_mineGreedily_117 : decode cX1_mineGreedily 117 = .ok (.ifCond .lt 23, 3) := by decide +kernel
theorem dX1_mineGreedily_120 : decode cX1_mineGreedily 120 = .ok (.aload_n 0, 1) := by decide +kernel
theorem dX1_mineGreedily_121 : decode cX1_mineGreedily 121 = .ok (.getfield 31, 3) := by decide +kernel
theorem dX1_mineGreedily_124 : decode cX1_mineGreedily 124 = .ok (.iload_n 2, 1) := by decide +kernel
theorem dX1_mineGreedily_125 : decode cX1_mineGreedily 125 = .ok (.iconst 1, 1) := by decide +kernel
theorem dX1_mineGreedily_126 : decode cX1_mineGreedily 126 = .ok (.iastore, 1) := by decide +kernel
theorem dX1_mineGreedily_127 : decode cX1_mineGreedily 127 = .ok (.aload_n 0, 1) := by decide +kernel
theorem dX1_mineGreedily_128 : decode cX1_mineGreedily 128 = .ok (.aload_n 0, 1) := by decide +kernel
theorem dX1_mineGreedily_129 : decode cX1_mineGreedily 129 = .ok (.getfield 22, 3) := by decide +kernel
theorem dX1_mineGreedily_132 : decode cX1_mineGreedily 132 = .ok (.iload_n 2, 1) := by decide +kernel
theorem dX1_mineGreedily_133 : decode cX1_mineGreedily 133 = .ok (.iaload, 1) := by decide +kernel
theorem dX1_mineGreedily_134 : decode cX1_mineGreedily 134 = .ok (.invokevirtual 98, 3) := by decide +kernel
theorem dX1_mineGreedily_137 : decode cX1_mineGreedily 137 = .ok (.iinc 1 1, 3) := by decide +kernel
theorem dX1_mineGreedily_140 : decode cX1_mineGreedily 140 = .ok (.goto (-100), 3) := by decide +kernel
theorem dX1_mineGreedily_143 : decode cX1_mineGreedily 143 = .ok (.aload_n 0, 1) := by decide +kernel
theorem dX1_mineGreedily_144 : decode cX1_mineGreedily 144 = .ok (.iconst 0, 1) := by decide +kernel
theorem dX1_mineGreedily_145 : decode cX1_mineGreedily 145 = .ok (.putfield 112, 3) := by decide +kernel
theorem dX1_mineGreedily_148 : decode cX1_mineGreedily 148 = .ok (.iconst 0, 1) := by decide +kernel
theorem dX1_mineGreedily_149 : decode cX1_mineGreedily 149 = .ok (.istore_n 3, 1) := by decide +kernel
theorem dX1_mineGreedily_150 : decode cX1_mineGreedily 150 = .ok (.iload_n 3, 1) := by decide +kernel
theorem dX1_mineGreedily_151 : decode cX1_mineGreedily 151 = .ok (.aload_n 0, 1) := by decide +kernel
theorem dX1_mineGreedily_152 : decode cX1_mineGreedily 152 = .ok (.getfield 86, 3) := by decide +kernel
theorem dX1_mineGreedily_155 : decode cX1_mineGreedily 155 = .ok (.if_icmp .ge 44, 3) := by decide +kernel
theorem dX1_mineGreedily_158 : decode cX1_mineGreedily 158 = .ok (.aload_n 0, 1) := by decide +kernel
theorem dX1_mineGreedily_159 : decode cX1_mineGreedily 159 = .ok (.getfield 31, 3) := by decide +kernel
theorem dX1_mineGreedily_162 : decode cX1_mineGreedily 162 = .ok (.iload_n 3, 1) := by decide +kernel
theorem dX1_mineGreedily_163 : decode cX1_mineGreedily 163 = .ok (.iaload, 1) := by decide +kernel
theorem dX1_mineGreedily_164 : decode cX1_mineGreedily 164 = .ok (.iconst 1, 1) := by decide +kernel
theorem dX1_mineGreedily_165 : decode cX1_mineGreedily 165 = .ok (.if_icmp .ne 28, 3) := by decide +kernel
theorem dX1_mineGreedily_168 : decode cX1_mineGreedily 168 = .ok (.aload_n 0, 1) := by decide +kernel
theorem dX1_mineGreedily_169 : decode cX1_mineGreedily 169 = .ok (.getfield 19, 3) := by decide +kernel
theorem dX1_mineGreedily_172 : decode cX1_mineGreedily 172 = .ok (.aload_n 0, 1) := by decide +kernel
theorem dX1_mineGreedily_173 : decode cX1_mineGreedily 173 = .ok (.getfield 112, 3) := by decide +kernel
theorem dX1_mineGreedily_176 : decode cX1_mineGreedily 176 = .ok (.aload_n 0, 1) := by decide +kernel
theorem dX1_mineGreedily_177 : decode cX1_mineGreedily 177 = .ok (.getfield 22, 3) := by decide +kernel
theorem dX1_mineGreedily_180 : decode cX1_mineGreedily 180 = .ok (.iload_n 3, 1) := by decide +kernel
theorem dX1_mineGreedily_181 : decode cX1_mineGreedily 181 = .ok (.iaload, 1) := by decide +kernel
theorem dX1_mineGreedily_182 : decode cX1_mineGreedily 182 = .ok (.iastore, 1) := by decide +kernel
theorem dX1_mineGreedily_183 : decode cX1_mineGreedily 183 = .ok (.aload_n 0, 1) := by decide +kernel
theorem dX1_mineGreedily_184 : decode cX1_mineGreedily 184 = .ok (.dup, 1) := by decide +kernel
theorem dX1_mineGreedily_185 : decode cX1_mineGreedily 185 = .ok (.getfield 112, 3) := by decide +kernel
theorem dX1_mineGreedily_188 : decode cX1_mineGreedily 188 = .ok (.iconst 1, 1) := by decide +kernel
theorem dX1_mineGreedily_189 : decode cX1_mineGreedily 189 = .ok (.iadd, 1) := by decide +kernel
theorem dX1_mineGreedily_190 : decode cX1_mineGreedily 190 = .ok (.putfield 112, 3) := by decide +kernel
theorem dX1_mineGreedily_193 : decode cX1_mineGreedily 193 = .ok (.iinc 3 1, 3) := by decide +kernel
theorem dX1_mineGreedily_196 : decode cX1_mineGreedily 196 = .ok (.goto (-46), 3) := by decide +kernel
theorem dX1_mineGreedily_199 : decode cX1_mineGreedily 199 = .ok (.aload_n 0, 1) := by decide +kernel
theorem dX1_mineGreedily_200 : decode cX1_mineGreedily 200 = .ok (.getfield 34, 3) := by decide +kernel
theorem dX1_mineGreedily_203 : decode cX1_mineGreedily 203 = .ok (.iload_n 1, 1) := by decide +kernel
theorem dX1_mineGreedily_204 : decode cX1_mineGreedily 204 = .ok (.imul, 1) := by decide +kernel
theorem dX1_mineGreedily_205 : decode cX1_mineGreedily 205 = .ok (.aload_n 0, 1) := by decide +kernel
theorem dX1_mineGreedily_206 : decode cX1_mineGreedily 206 = .ok (.getfield 38, 3) := by decide +kernel
theorem dX1_mineGreedily_209 : decode cX1_mineGreedily 209 = .ok (.aload_n 0, 1) := by decide +kernel
theorem dX1_mineGreedily_210 : decode cX1_mineGreedily 210 = .ok (.invokevirtual 102, 3) := by decide +kernel
theorem dX1_mineGreedily_213 : decode cX1_mineGreedily 213 = .ok (.imul, 1) := by decide +kernel
theorem dX1_mineGreedily_214 : decode cX1_mineGreedily 214 = .ok (.iadd, 1) := by decide +kernel
theorem dX1_mineGreedily_215 : decode cX1_mineGreedily 215 = .ok (.ireturn, 1) := by decide +kernel
set_option maxRecDepth 20000 in
theorem ggX1_precedes_X1_size : GoodIn wsX1_precedes wsX1_size := goodIn_r _ [5] (by decide +kernel) (by decide +kernel)
set_option maxRecDepth 20000 in
theorem gX1_precedes_X1_size : GoodIn wsX1_precedes (wsV RX1 78 RX1 yX1_size wsX1_size) := goodIn_app (goodIn_of _ (by decide +kernel)) ggX1_precedes_X1_size
theorem dX1_precedes_0 : decode cX1_precedes 0 = .ok (.aload_n 0, 1) := by decide +kernel
theorem dX1_precedes_1 : decode cX1_precedes 1 = .ok (.iload_n 1, 1) := by decide +kernel
theorem dX1_precedes_2 : decode cX1_precedes 2 = .ok (.invokevirtual 78, 3) := by decide +kernel
theorem dX1_precedes_5 : decode cX1_precedes 5 = .ok (.istore_n 3, 1) := by decide +kernel
theorem dX1_precedes_6 : decode cX1_precedes 6 = .ok (.aload_n 0, 1) := by decide +kernel
theorem dX1_precedes_7 : decode cX1_precedes 7 = .ok (.iload_n 2, 1) := by decide +kernel
theorem dX1_precedes_8 : decode cX1_precedes 8 = .ok (.invokevirtual 78, 3) := by decide +kernel
theorem dX1_precedes_11 : decode cX1_precedes 11 = .ok (.istore 4, 2) := by decide +kernel
theorem dX1_precedes_13 : decode cX1_precedes 13 = .ok (.iload_n 1, 1) := by decide +kernel
theorem dX1_precedes_14 : decode cX1_precedes 14 = .ok (.iload_n 2, 1) := by decide +kernel
theorem dX1_precedes_15 : decode cX1_precedes 15 = .ok (.ixor, 1) := by decide +kernel
theorem dX1_precedes_16 : decode cX1_precedes 16 = .ok (.istore 5, 2) := by decide +kernel
theorem dX1_precedes_18 : decode cX1_precedes 18 = .ok (.iload_n 3, 1) := by decide +kernel
theorem dX1_precedes_19 : decode cX1_precedes 19 = .ok (.iload 4, 2) := by decide +kernel
theorem dX1_precedes_21 : decode cX1_precedes 21 = .ok (.if_icmp .ne 22, 3) := by decide +kernel
theorem dX1_precedes_24 : decode cX1_precedes 24 = .ok (.iload_n 1, 1) := by decide +kernel
theorem dX1_precedes_25 : decode cX1_precedes 25 = .ok (.iload 5, 2) := by decide +kernel
theorem dX1_precedes_27 : decode cX1_precedes 27 = .ok (.iand, 1) := by decide +kernel
theorem dX1_precedes_28 : decode cX1_precedes 28 = .ok (.iload 5, 2) := by decide +kernel
theorem dX1_precedes_30 : decode cX1_precedes 30 = .ok (.ineg, 1) := by decide +kernel
theorem dX1_precedes_31 : decode cX1_precedes 31 = .ok (.iand, 1) := by decide +kernel
theorem dX1_precedes_32 : decode cX1_precedes 32 = .ok (.ifCond .eq 7, 3) := by decide +kernel
theorem dX1_precedes_35 : decode cX1_precedes 35 = .ok (.iconst 1, 1) := by decide +kernel
theorem dX1_precedes_36 : decode cX1_precedes 36 = .ok (.goto 18, 3) := by decide +kernel
theorem dX1_precedes_39 : decode cX1_precedes 39 = .ok (.iconst 0, 1) := by decide +kernel
theorem dX1_precedes_40 : decode cX1_precedes 40 = .ok (.goto 14, 3) := by decide +kernel
theorem dX1_precedes_43 : decode cX1_precedes 43 = .ok (.iload_n 3, 1) := by decide +kernel
theorem dX1_precedes_44 : decode cX1_precedes 44 = .ok (.iload 4, 2) := by decide +kernel
theorem dX1_precedes_46 : decode cX1_precedes 46 = .ok (.if_icmp .ge 7, 3) := by decide +kernel
theorem dX1_precedes_49 : decode cX1_precedes 49 = .ok (.iconst 1, 1) := by decide +kernel
theorem dX1_precedes_50 : decode cX1_precedes 50 = .ok (.goto 4, 3) := by decide +kernel
theorem dX1_precedes_53 : decode cX1_precedes 53 = .ok (.iconst 0, 1) := by decide +kernel
theorem dX1_precedes_54 : decode cX1_precedes 54 = .ok (.ireturn, 1) := by decide +kernel
set_option maxRecDepth 20000 in
theorem ggX1_best_X1_price : GoodIn wsX1_best wsX1_price := goodIn_r _ [6, 1, 7, 8, 9, 10, 11, 12, 5, 13, 14, 15, 16, 17, 18, 19, 20, 21, 22, 23, 24, 25, 26, 27, 28, 29, 30, 31, 32, 33, 34, 35, 40, 41, 42, 43, 44, 45, 46, 47, 48, 49, 50, 51, 52, 53, 54, 55] (by decide +kernel) (by decide +kernel)
set_option maxRecDepth 20000 in
theorem gX1_best_X1_price : GoodIn wsX1_best (wsV RX1 115 RX1 yX1_price wsX1_price) := goodIn_app (goodIn_of _ (by decide +kernel)) ggX1_best_X1_price
set_option maxRecDepth 20000 in
theorem ggX1_best_X1_precedes : GoodIn wsX1_best wsX1_precedes := goodIn_r _ [39, 28, 29, 30, 5, 31] (by decide +kernel) (by decide +kernel)
set_option maxRecDepth 20000 in
theorem gX1_best_X1_precedes : GoodIn wsX1_best (wsV RX1 118 RX1 yX1_precedes wsX1_precedes) := goodIn_app (goodIn_of _ (by decide +kernel)) ggX1_best_X1_precedes
theorem dX1_best_0 : decode cX1_best 0 = .ok (.iconst 0, 1) := by decide +kernel
theorem dX1_best_1 : decode cX1_best 1 = .ok (.istore_n 1, 1) := by decide +kernel
theorem dX1_best_2 : decode cX1_best 2 = .ok (.aload_n 0, 1) := by decide +kernel
theorem dX1_best_3 : decode cX1_best 3 = .ok (.iconst 0, 1) := by decide +kernel
theorem dX1_best_4 : decode cX1_best 4 = .ok (.invokevirtual 115, 3) := by decide +kernel
theorem dX1_best_7 : decode cX1_best 7 = .ok (.istore_n 2, 1) := by decide +kernel
theorem dX1_best_8 : decode cX1_best 8 = .ok (.iconst 1, 1) := by decide +kernel
theorem dX1_best_9 : decode cX1_best 9 = .ok (.istore_n 3, 1) := by decide +kernel
theorem dX1_best_10 : decode cX1_best 10 = .ok (.iload_n 3, 1) := by decide +kernel
theorem dX1_best_11 : decode cX1_best 11 = .ok (.iconst 1, 1) := by decide +kernel
theorem dX1_best_12 : decode cX1_best 12 = .ok (.aload_n 0, 1) := by decide +kernel
theorem dX1_best_13 : decode cX1_best 13 = .ok (.getfield 86, 3) := by decide +kernel
theorem dX1_best_16 : decode cX1_best 16 = .ok (.ishl, 1) := by decide +kernel
theorem dX1_best_17 : decode cX1_best 17 = .ok (.if_icmp .ge 42, 3) := by decide +kernel
theorem dX1_best_20 : decode cX1_best 20 = .ok (.aload_n 0, 1) := by decide +kernel
theorem dX1_best_21 : decode cX1_best 21 = .ok (.iload_n 3, 1) := by decide +kernel
theorem dX1_best_22 : decode cX1_best 22 = .ok (.invokevirtual 115, 3) := by decide +kernel
theorem dX1_best_25 : decode cX1_best 25 = .ok (.istore 4, 2) := by decide +kernel
theorem dX1_best_27 : decode cX1_best 27 = .ok (.iload 4, 2) := by decide +kernel
theorem dX1_best_29 : decode cX1_best 29 = .ok (.iload_n 2, 1) := by decide +kernel
theorem dX1_best_30 : decode cX1_best 30 = .ok (.if_icmp .lt 18, 3) := by decide +kernel
theorem dX1_best_33 : decode cX1_best 33 = .ok (.iload 4, 2) := by decide +kernel
theorem dX1_best_35 : decode cX1_best 35 = .ok (.iload_n 2, 1) := by decide +kernel
theorem dX1_best_36 : decode cX1_best 36 = .ok (.if_icmp .ne 17, 3) := by decide +kernel
theorem dX1_best_39 : decode cX1_best 39 = .ok (.aload_n 0, 1) := by decide +kernel
theorem dX1_best_40 : decode cX1_best 40 = .ok (.iload_n 3, 1) := by decide +kernel
theorem dX1_best_41 : decode cX1_best 41 = .ok (.iload_n 1, 1) := by decide +kernel
theorem dX1_best_42 : decode cX1_best 42 = .ok (.invokevirtual 118, 3) := by decide +kernel
theorem dX1_best_45 : decode cX1_best 45 = .ok (.ifCond .eq 8, 3) := by decide +kernel
theorem dX1_best_48 : decode cX1_best 48 = .ok (.iload_n 3, 1) := by decide +kernel
theorem dX1_best_49 : decode cX1_best 49 = .ok (.istore_n 1, 1) := by decide +kernel
theorem dX1_best_50 : decode cX1_best 50 = .ok (.iload 4, 2) := by decide +kernel
theorem dX1_best_52 : decode cX1_best 52 = .ok (.istore_n 2, 1) := by decide +kernel
theorem dX1_best_53 : decode cX1_best 53 = .ok (.iinc 3 1, 3) := by decide +kernel
theorem dX1_best_56 : decode cX1_best 56 = .ok (.goto (-46), 3) := by decide +kernel
theorem dX1_best_59 : decode cX1_best 59 = .ok (.iload_n 1, 1) := by decide +kernel
theorem dX1_best_60 : decode cX1_best 60 = .ok (.ireturn, 1) := by decide +kernel
set_option maxRecDepth 20000 in
theorem ggX1_isTooMuch_X1_find : GoodIn wsX1_isTooMuch wsX1_find := goodIn_r _ [6, 7, 8, 1, 9, 10, 11, 12, 13, 5, 14, 15, 16, 17, 18, 19, 20, 21, 22, 23, 24, 25, 26, 27, 28, 29, 30, 31, 32, 33, 34, 35, 36, 37, 38, 39, 40, 41, 42, 43, 44, 45, 46, 47] (by decide +kernel) (by decide +kernel)
set_option maxRecDepth 20000 in
theorem gX1_isTooMuch_X1_find : GoodIn wsX1_isTooMuch (wsV RX1 106 RX1 yX1_find wsX1_find) := goodIn_app (goodIn_of _ (by decide +kernel)) ggX1_isTooMuch_X1_find
theorem dX1_isTooMuch_0 : decode cX1_isTooMuch 0 = .ok (.aload_n 0, 1) := by decide +kernel
theorem dX1_isTooMuch_1 : decode cX1_isTooMuch 1 = .ok (.invokevirtual 106, 3) := by decide +kernel
theorem dX1_isTooMuch_4 : decode cX1_isTooMuch 4 = .ok (.aload_n 0, 1) := by decide +kernel
theorem dX1_isTooMuch_5 : decode cX1_isTooMuch 5 = .ok (.getfield 86, 3) := by decide +kernel
theorem dX1_isTooMuch_8 : decode cX1_isTooMuch 8 = .ok (.bipush 14, 2) := by decide +kernel
theorem dX1_isTooMuch_10 : decode cX1_isTooMuch 10 = .ok (.if_icmp .le 7, 3) := by decide +kernel
theorem dX1_isTooMuch_13 : decode cX1_isTooMuch 13 = .ok (.iconst 1, 1) := by decide +kernel
theorem dX1_isTooMuch_14 : decode cX1_isTooMuch 14 = .ok (.goto 4, 3) := by decide +kernel
theorem dX1_isTooMuch_17 : decode cX1_isTooMuch 17 = .ok (.iconst 0, 1) := by decide +kernel
theorem dX1_isTooMuch_18 : decode cX1_isTooMuch 18 = .ok (.ireturn, 1) := by decide +kernel
set_option maxRecDepth 20000 in
theorem ggX1_mineBest_X1_isTooMuch : GoodIn wsX1_mineBest wsX1_isTooMuch := goodIn_r _ [9, 2, 10, 11, 12, 8, 13, 14, 15, 16, 4, 17, 18, 19, 20, 21, 22, 23, 24, 25, 26, 27, 28, 29, 30, 31, 32, 33, 34, 35, 36, 37, 70, 71, 72, 73, 74, 75, 76, 77, 78, 79, 80, 81, 82, 83, 84, 85] (by decide +kernel) (by decide +kernel)
set_option maxRecDepth 20000 in
theorem gX1_mineBest_X1_isTooMuch : GoodIn wsX1_mineBest (wsV RX1 121 RX1 yX1_isTooMuch wsX1_isTooMuch) := goodIn_app (goodIn_of _ (by decide +kernel)) ggX1_mineBest_X1_isTooMuch
set_option maxRecDepth 20000 in
theorem ggX1_mineBest_X1_holds : GoodIn wsX1_mineBest wsX1_holds := goodIn_r _ [41, 42, 70, 71, 72, 73, 74, 75, 76, 77, 78, 79, 80, 81, 82, 83, 84, 85] (by decide +kernel) (by decide +kernel)
set_option maxRecDepth 20000 in
theorem gX1_mineBest_X1_holds : GoodIn wsX1_mineBest (wsV RX1 71 RX1 yX1_holds wsX1_holds) := goodIn_app (goodIn_of _ (by decide +kernel)) ggX1_mineBest_X1_holds
set_option maxRecDepth 20000 in
theorem ggX1_mineBest_X1_best : GoodIn wsX1_mineBest wsX1_best := goodIn_r _ [46, 2, 47, 48, 49, 8, 50, 4, 51, 52, 53, 54, 55, 56, 57, 17, 18, 19, 20, 58, 59, 60, 61, 30, 31, 32, 33, 15, 34, 35, 36, 37, 62, 63, 64, 65, 66, 67, 68, 69, 70, 71, 72, 73, 74, 75, 76, 77, 78, 79, 80, 81, 82, 83, 84, 85] (by decide +kernel) (by decide +kernel)
set_option maxRecDepth 20000 in
theorem gX1_mineBest_X1_best : GoodIn wsX1_mineBest (wsV RX1 125 RX1 yX1_best wsX1_best) := goodIn_app (goodIn_of _ (by decide +kernel)) ggX1_mineBest_X1_best
set_option maxRecDepth 20000 in
theorem ggX1_mineBest_X1_isIn : GoodIn wsX1_mineBest wsX1_isIn := goodIn_r _ [20] (by decide +kernel) (by decide +kernel)
set_option maxRecDepth 20000 in
theorem gX1_mineBest_X1_isIn : GoodIn wsX1_mineBest (wsV RX1 54 RX1 yX1_isIn wsX1_isIn) := goodIn_app (goodIn_of _ (by decide +kernel)) ggX1_mineBest_X1_isIn
set_option maxRecDepth 20000 in
theorem ggX1_mineBest_X1_price : GoodIn wsX1_mineBest wsX1_price := goodIn_r _ [50, 2, 4, 51, 52, 53, 54, 55, 8, 56, 57, 17, 18, 19, 20, 58, 59, 60, 61, 30, 31, 32, 33, 15, 34, 35, 36, 37, 62, 63, 64, 65, 70, 71, 72, 73, 74, 75, 76, 77, 78, 79, 80, 81, 82, 83, 84, 85] (by decide +kernel) (by decide +kernel)
set_option maxRecDepth 20000 in
theorem gX1_mineBest_X1_price : GoodIn wsX1_mineBest (wsV RX1 115 RX1 yX1_price wsX1_price) := goodIn_app (goodIn_of _ (by decide +kernel)) ggX1_mineBest_X1_price
theorem dX1_mineBest_0 : decode cX1_mineBest 0 = .ok (.aload_n 0, 1) := by decide +kernel
theorem dX1_mineBest_1 : decode cX1_mineBest 1 = .ok (.aload_n 0, 1) := by decide +kernel
theorem dX1_mineBest_2 : decode cX1_mineBest 2 = .ok (.invokevirtual 121, 3) := by decide +kernel
theorem dX1_mineBest_5 : decode cX1_mineBest 5 = .ok (.ifCond .eq 7, 3) := by decide +kernel
theorem dX1_mineBest_8 : decode cX1_mineBest 8 = .ok (.iconst 1, 1) := by decide +kernel
theorem dX1_mineBest_9 : decode cX1_mineBest 9 = .ok (.goto 4, 3) := by decide +kernel
theorem dX1_mineBest_12 : decode cX1_mineBest 12 = .ok (.iconst 0, 1) := by decide +kernel
theorem dX1_mineBest_13 : decode cX1_mineBest 13 = .ok (.invokevirtual 71, 3) := by decide +kernel
theorem dX1_mineBest_16 : decode cX1_mineBest 16 = .ok (.ifCond .eq 5, 3) := by decide +kernel
theorem dX1_mineBest_19 : decode cX1_mineBest 19 = .ok (.iconst (-1), 1) := by decide +kernel
theorem dX1_mineBest_20 : decode cX1_mineBest 20 = .ok (.ireturn, 1) := by decide +kernel
theorem dX1_mineBest_21 : decode cX1_mineBest 21 = .ok (.aload_n 0, 1) := by decide +kernel
theorem dX1_mineBest_22 : decode cX1_mineBest 22 = .ok (.invokevirtual 125, 3) := by decide +kernel
theorem dX1_mineBest_25 : decode cX1_mineBest 25 = .ok (.istore_n 1, 1) := by decide +kernel
theorem dX1_mineBest_26 : decode cX1_mineBest 26 = .ok (.aload_n 0, 1) := by decide +kernel
theorem dX1_mineBest_27 : decode cX1_mineBest 27 = .ok (.iconst 0, 1) := by decide +kernel
theorem dX1_mineBest_28 : decode cX1_mineBest 28 = .ok (.putfield 112, 3) := by decide +kernel
theorem dX1_mineBest_31 : decode cX1_mineBest 31 = .ok (.iconst 0, 1) := by decide +kernel
theorem dX1_mineBest_32 : decode cX1_mineBest 32 = .ok (.istore_n 2, 1) := by decide +kernel
theorem dX1_mineBest_33 : decode cX1_mineBest 33 = .ok (.iload_n 2, 1) := by decide +kernel
theorem dX1_mineBest_34 : decode cX1_mineBest 34 = .ok (.aload_n 0, 1) := by decide +kernel
theorem dX1_mineBest_35 : decode cX1_mineBest 35 = .ok (.getfield 86, 3) := by decide +kernel
theorem dX1_mineBest_38 : decode cX1_mineBest 38 = .ok (.if_icmp .ge 43, 3) := by decide +kernel
theorem dX1_mineBest_41 : decode cX1_mineBest 41 = .ok (.aload_n 0, 1) := by decide +kernel
theorem dX1_mineBest_42 : decode cX1_mineBest 42 = .ok (.iload_n 1, 1) := by decide +kernel
theorem dX1_mineBest_43 : decode cX1_mineBest 43 = .ok (.iload_n 2, 1) := by decide +kernel
theorem dX1_mineBest_44 : decode cX1_mineBest 44 = .ok (.invokevirtual 54, 3) := by decide +kernel
theorem dX1_mineBest_47 : decode cX1_mineBest 47 = .ok (.ifCond .eq 28, 3) := by decide +kernel
theorem dX1_mineBest_50 : decode cX1_mineBest 50 = .ok (.aload_n 0, 1) := by decide +kernel
theorem dX1_mineBest_51 : decode cX1_mineBest 51 = .ok (.getfield 19, 3) := by decide +kernel
theorem dX1_mineBest_54 : decode cX1_mineBest 54 = .ok (.aload_n 0, 1) := by decide +kernel
theorem dX1_mineBest_55 : decode cX1_mineBest 55 = .ok (.getfield 112, 3) := by decide +kernel
theorem dX1_mineBest_58 : decode cX1_mineBest 58 = .ok (.aload_n 0, 1) := by decide +kernel
theorem dX1_mineBest_59 : decode cX1_mineBest 59 = .ok (.getfield 22, 3) := by decide +kernel
theorem dX1_mineBest_62 : decode cX1_mineBest 62 = .ok (.iload_n 2, 1) := by decide +kernel
theorem dX1_mineBest_63 : decode cX1_mineBest 63 = .ok (.iaload, 1) := by decide +kernel
theorem dX1_mineBest_64 : decode cX1_mineBest 64 = .ok (.iastore, 1) := by decide +kernel
theorem dX1_mineBest_65 : decode cX1_mineBest 65 = .ok (.aload_n 0, 1) := by decide +kernel
theorem dX1_mineBest_66 : decode cX1_mineBest 66 = .ok (.dup, 1) := by decide +kernel
theorem dX1_mineBest_67 : decode cX1_mineBest 67 = .ok (.getfield 112, 3) := by decide +kernel
theorem dX1_mineBest_70 : decode cX1_mineBest 70 = .ok (.iconst 1, 1) := by decide +kernel
theorem dX1_mineBest_71 : decode cX1_mineBest 71 = .ok (.iadd, 1) := by decide +kernel
theorem dX1_mineBest_72 : decode cX1_mineBest 72 = .ok (.putfield 112, 3) := by decide +kernel
theorem dX1_mineBest_75 : decode cX1_mineBest 75 = .ok (.iinc 2 1, 3) := by decide +kernel
theorem dX1_mineBest_78 : decode cX1_mineBest 78 = .ok (.goto (-45), 3) := by decide +kernel
theorem dX1_mineBest_81 : decode cX1_mineBest 81 = .ok (.aload_n 0, 1) := by decide +kernel
theorem dX1_mineBest_82 : decode cX1_mineBest 82 = .ok (.iload_n 1, 1) := by decide +kernel
theorem dX1_mineBest_83 : decode cX1_mineBest 83 = .ok (.invokevirtual 115, 3) := by decide +kernel
theorem dX1_mineBest_86 : decode cX1_mineBest 86 = .ok (.ireturn, 1) := by decide +kernel
set_option maxRecDepth 20000 in
theorem ggX1_dropRoles_X1_plain : GoodIn wsX1_dropRoles wsX1_plain := goodIn_r _ [6, 7, 8, 9, 10, 11, 12, 13, 14, 15, 16, 17, 18, 19, 20, 21, 22, 23] (by decide +kernel) (by decide +kernel)
set_option maxRecDepth 20000 in
theorem gX1_dropRoles_X1_plain : GoodIn wsX1_dropRoles (wsV RX1 128 RX1 yX1_plain wsX1_plain) := goodIn_app (goodIn_of _ (by decide +kernel)) ggX1_dropRoles_X1_plain
theorem dX1_dropRoles_0 : decode cX1_dropRoles 0 = .ok (.aload_n 0, 1) := by decide +kernel
theorem dX1_dropRoles_1 : decode cX1_dropRoles 1 = .ok (.getfield 112, 3) := by decide +kernel
theorem dX1_dropRoles_4 : decode cX1_dropRoles 4 = .ok (.istore_n 1, 1) := by decide +kernel
theorem dX1_dropRoles_5 : decode cX1_dropRoles 5 = .ok (.aload_n 0, 1) := by decide +kernel
theorem dX1_dropRoles_6 : decode cX1_dropRoles 6 = .ok (.iconst 0, 1) := by decide +kernel
theorem dX1_dropRoles_7 : decode cX1_dropRoles 7 = .ok (.putfield 112, 3) := by decide +kernel
theorem dX1_dropRoles_10 : decode cX1_dropRoles 10 = .ok (.aload_n 0, 1) := by decide +kernel
theorem dX1_dropRoles_11 : decode cX1_dropRoles 11 = .ok (.iload_n 1, 1) := by decide +kernel
theorem dX1_dropRoles_12 : decode cX1_dropRoles 12 = .ok (.invokevirtual 128, 3) := by decide +kernel
theorem dX1_dropRoles_15 : decode cX1_dropRoles 15 = .ok (.ireturn, 1) := by decide +kernel
set_option maxRecDepth 20000 in
theorem ggX1_permissions_X1_isUser : GoodIn wsX1_permissions wsX1_isUser := goodIn_r _ [6, 7, 8, 9, 5, 10] (by decide +kernel) (by decide +kernel)
set_option maxRecDepth 20000 in
theorem gX1_permissions_X1_isUser : GoodIn wsX1_permissions (wsV RX1 64 RX1 yX1_isUser wsX1_isUser) := goodIn_app (goodIn_of _ (by decide +kernel)) ggX1_permissions_X1_isUser
set_option maxRecDepth 20000 in
theorem ggX1_permissions_X1_holds : GoodIn wsX1_permissions wsX1_holds := goodIn_r _ [14, 15, 16, 17, 18, 19, 20, 21, 22, 23, 24, 25, 26, 27, 28, 29, 30, 31] (by decide +kernel) (by decide +kernel)
set_option maxRecDepth 20000 in
theorem gX1_permissions_X1_holds : GoodIn wsX1_permissions (wsV RX1 71 RX1 yX1_holds wsX1_holds) := goodIn_app (goodIn_of _ (by decide +kernel)) ggX1_permissions_X1_holds
theorem dX1_permissions_0 : decode cX1_permissions 0 = .ok (.aload_n 0, 1) := by decide +kernel
theorem dX1_permissions_1 : decode cX1_permissions 1 = .ok (.aload_n 0, 1) := by decide +kernel
theorem dX1_permissions_2 : decode cX1_permissions 2 = .ok (.iload_n 1, 1) := by decide +kernel
theorem dX1_permissions_3 : decode cX1_permissions 3 = .ok (.invokevirtual 64, 3) := by decide +kernel
theorem dX1_permissions_6 : decode cX1_permissions 6 = .ok (.ifCond .eq 7, 3) := by decide +kernel
theorem dX1_permissions_9 : decode cX1_permissions 9 = .ok (.iconst 0, 1) := by decide +kernel
theorem dX1_permissions_10 : decode cX1_permissions 10 = .ok (.goto 4, 3) := by decide +kernel
theorem dX1_permissions_13 : decode cX1_permissions 13 = .ok (.iconst 1, 1) := by decide +kernel
theorem dX1_permissions_14 : decode cX1_permissions 14 = .ok (.invokevirtual 71, 3) := by decide +kernel
theorem dX1_permissions_17 : decode cX1_permissions 17 = .ok (.ifCond .eq 7, 3) := by decide +kernel
theorem dX1_permissions_20 : decode cX1_permissions 20 = .ok (.iconst (-1), 1) := by decide +kernel
theorem dX1_permissions_21 : decode cX1_permissions 21 = .ok (.goto 9, 3) := by decide +kernel
theorem dX1_permissions_24 : decode cX1_permissions 24 = .ok (.aload_n 0, 1) := by decide +kernel
theorem dX1_permissions_25 : decode cX1_permissions 25 = .ok (.getfield 7, 3) := by decide +kernel
theorem dX1_permissions_28 : decode cX1_permissions 28 = .ok (.iload_n 1, 1) := by decide +kernel
theorem dX1_permissions_29 : decode cX1_permissions 29 = .ok (.iaload, 1) := by decide +kernel
theorem dX1_permissions_30 : decode cX1_permissions 30 = .ok (.ireturn, 1) := by decide +kernel
set_option maxRecDepth 20000 in
theorem ggX1_grants_X1_uncover : GoodIn wsX1_grants wsX1_uncover := goodIn_r _ [6, 7, 17, 18, 19, 20, 21, 22, 23, 24, 25, 26, 27, 28, 29, 30, 31, 32] (by decide +kernel) (by decide +kernel)
set_option maxRecDepth 20000 in
theorem gX1_grants_X1_uncover : GoodIn wsX1_grants (wsV RX1 95 RX1 yX1_uncover wsX1_uncover) := goodIn_app (goodIn_of _ (by decide +kernel)) ggX1_grants_X1_uncover
set_option maxRecDepth 20000 in
theorem ggX1_grants_X1_uncovered : GoodIn wsX1_grants wsX1_uncovered := goodIn_r _ [11, 12, 7, 13, 14, 15, 5, 16, 17, 18, 19, 20, 21, 22, 23, 24, 25, 26, 27, 28, 29, 30, 31, 32] (by decide +kernel) (by decide +kernel)
set_option maxRecDepth 20000 in
theorem gX1_grants_X1_uncovered : GoodIn wsX1_grants (wsV RX1 102 RX1 yX1_uncovered wsX1_uncovered) := goodIn_app (goodIn_of _ (by decide +kernel)) ggX1_grants_X1_uncovered
theorem dX1_grants_0 : decode cX1_grants 0 = .ok (.aload_n 0, 1) := by decide +kernel
theorem dX1_grants_1 : decode cX1_grants 1 = .ok (.iconst 0, 1) := by decide +kernel
theorem dX1_grants_2 : decode cX1_grants 2 = .ok (.putfield 47, 3) := by decide +kernel
theorem dX1_grants_5 : decode cX1_grants 5 = .ok (.aload_n 0, 1) := by decide +kernel
theorem dX1_grants_6 : decode cX1_grants 6 = .ok (.invokevirtual 95, 3) := by decide +kernel
theorem dX1_grants_9 : decode cX1_grants 9 = .ok (.aload_n 0, 1) := by decide +kernel
theorem dX1_grants_10 : decode cX1_grants 10 = .ok (.invokevirtual 102, 3) := by decide +kernel
theorem dX1_grants_13 : decode cX1_grants 13 = .ok (.ireturn, 1) := by decide +kernel
set_option maxRecDepth 20000 in
theorem ggX1_violations_X1_isUser : GoodIn wsX1_violations wsX1_isUser := goodIn_r _ [7, 8, 9, 10, 6, 11] (by decide +kernel) (by decide +kernel)
set_option maxRecDepth 20000 in
theorem gX1_violations_X1_isUser : GoodIn wsX1_violations (wsV RX1 64 RX1 yX1_isUser wsX1_isUser) := goodIn_app (goodIn_of _ (by decide +kernel)) ggX1_violations_X1_isUser
set_option maxRecDepth 20000 in
theorem ggX1_violations_X1_holds : GoodIn wsX1_violations wsX1_holds := goodIn_r _ [15, 16, 25, 26, 27, 28, 29, 30, 31, 32, 33, 34, 35, 36, 37, 38, 39, 40] (by decide +kernel) (by decide +kernel)
set_option maxRecDepth 20000 in
theorem gX1_violations_X1_holds : GoodIn wsX1_violations (wsV RX1 71 RX1 yX1_holds wsX1_holds) := goodIn_app (goodIn_of _ (by decide +kernel)) ggX1_violations_X1_holds
set_option maxRecDepth 20000 in
theorem ggX1_violations_X1_isIn : GoodIn wsX1_violations wsX1_isIn := goodIn_r _ [20] (by decide +kernel) (by decide +kernel)
set_option maxRecDepth 20000 in
theorem gX1_violations_X1_isIn : GoodIn wsX1_violations (wsV RX1 54 RX1 yX1_isIn wsX1_isIn) := goodIn_app (goodIn_of _ (by decide +kernel)) ggX1_violations_X1_isIn
set_option maxRecDepth 20000 in
theorem ggX1_violations_X1_size : GoodIn wsX1_violations wsX1_size := goodIn_r _ [24] (by decide +kernel) (by decide +kernel)
set_option maxRecDepth 20000 in
theorem gX1_violations_X1_size : GoodIn wsX1_violations (wsV RX1 78 RX1 yX1_size wsX1_size) := goodIn_app (goodIn_of _ (by decide +kernel)) ggX1_violations_X1_size
theorem dX1_violations_0 : decode cX1_violations 0 = .ok (.aload_n 0, 1) := by decide +kernel
theorem dX1_violations_1 : decode cX1_violations 1 = .ok (.aload_n 0, 1) := by decide +kernel
theorem dX1_violations_2 : decode cX1_violations 2 = .ok (.iload_n 1, 1) := by decide +kernel
theorem dX1_violations_3 : decode cX1_violations 3 = .ok (.invokevirtual 64, 3) := by decide +kernel
theorem dX1_violations_6 : decode cX1_violations 6 = .ok (.ifCond .eq 7, 3) := by decide +kernel
theorem dX1_violations_9 : decode cX1_violations 9 = .ok (.iconst 0, 1) := by decide +kernel
theorem dX1_violations_10 : decode cX1_violations 10 = .ok (.goto 4, 3) := by decide +kernel
theorem dX1_violations_13 : decode cX1_violations 13 = .ok (.iconst 1, 1) := by decide +kernel
theorem dX1_violations_14 : decode cX1_violations 14 = .ok (.invokevirtual 71, 3) := by decide +kernel
theorem dX1_violations_17 : decode cX1_violations 17 = .ok (.ifCond .eq 5, 3) := by decide +kernel
theorem dX1_violations_20 : decode cX1_violations 20 = .ok (.iconst (-1), 1) := by decide +kernel
theorem dX1_violations_21 : decode cX1_violations 21 = .ok (.ireturn, 1) := by decide +kernel
theorem dX1_violations_22 : decode cX1_violations 22 = .ok (.iconst 0, 1) := by decide +kernel
theorem dX1_violations_23 : decode cX1_violations 23 = .ok (.istore_n 2, 1) := by decide +kernel
theorem dX1_violations_24 : decode cX1_violations 24 = .ok (.iconst 0, 1) := by decide +kernel
theorem dX1_violations_25 : decode cX1_violations 25 = .ok (.istore_n 3, 1) := by decide +kernel
theorem dX1_violations_26 : decode cX1_violations 26 = .ok (.iload_n 3, 1) := by decide +kernel
theorem dX1_violations_27 : decode cX1_violations 27 = .ok (.bipush 12, 2) := by decide +kernel
theorem dX1_violations_29 : decode cX1_violations 29 = .ok (.if_icmp .ge 47, 3) := by decide +kernel
theorem dX1_violations_32 : decode cX1_violations 32 = .ok (.iload_n 2, 1) := by decide +kernel
theorem dX1_violations_33 : decode cX1_violations 33 = .ok (.aload_n 0, 1) := by decide +kernel
theorem dX1_violations_34 : decode cX1_violations 34 = .ok (.aload_n 0, 1) := by decide +kernel
theorem dX1_violations_35 : decode cX1_violations 35 = .ok (.getfield 7, 3) := by decide +kernel
theorem dX1_violations_38 : decode cX1_violations 38 = .ok (.iload_n 1, 1) := by decide +kernel
theorem dX1_violations_39 : decode cX1_violations 39 = .ok (.iaload, 1) := by decide +kernel
theorem dX1_violations_40 : decode cX1_violations 40 = .ok (.iload_n 3, 1) := by decide +kernel
theorem dX1_violations_41 : decode cX1_violations 41 = .ok (.invokevirtual 54, 3) := by decide +kernel
theorem dX1_violations_44 : decode cX1_violations 44 = .ok (.ifCond .eq 23, 3) := by decide +kernel
theorem dX1_violations_47 : decode cX1_violations 47 = .ok (.aload_n 0, 1) := by decide +kernel
theorem dX1_violations_48 : decode cX1_violations 48 = .ok (.aload_n 0, 1) := by decide +kernel
theorem dX1_violations_49 : decode cX1_violations 49 = .ok (.getfield 16, 3) := by decide +kernel
theorem dX1_violations_52 : decode cX1_violations 52 = .ok (.iload_n 3, 1) := by decide +kernel
theorem dX1_violations_53 : decode cX1_violations 53 = .ok (.iaload, 1) := by decide +kernel
theorem dX1_violations_54 : decode cX1_violations 54 = .ok (.aload_n 0, 1) := by decide +kernel
theorem dX1_violations_55 : decode cX1_violations 55 = .ok (.getfield 7, 3) := by decide +kernel
theorem dX1_violations_58 : decode cX1_violations 58 = .ok (.iload_n 1, 1) := by decide +kernel
theorem dX1_violations_59 : decode cX1_violations 59 = .ok (.iaload, 1) := by decide +kernel
theorem dX1_violations_60 : decode cX1_violations 60 = .ok (.iand, 1) := by decide +kernel
theorem dX1_violations_61 : decode cX1_violations 61 = .ok (.invokevirtual 78, 3) := by decide +kernel
theorem dX1_violations_64 : decode cX1_violations 64 = .ok (.goto 4, 3) := by decide +kernel
theorem dX1_violations_67 : decode cX1_violations 67 = .ok (.iconst 0, 1) := by decide +kernel
theorem dX1_violations_68 : decode cX1_violations 68 = .ok (.iadd, 1) := by decide +kernel
theorem dX1_violations_69 : decode cX1_violations 69 = .ok (.istore_n 2, 1) := by decide +kernel
theorem dX1_violations_70 : decode cX1_violations 70 = .ok (.iinc 3 1, 3) := by decide +kernel
theorem dX1_violations_73 : decode cX1_violations 73 = .ok (.goto (-47), 3) := by decide +kernel
theorem dX1_violations_76 : decode cX1_violations 76 = .ok (.iload_n 2, 1) := by decide +kernel
theorem dX1_violations_77 : decode cX1_violations 77 = .ok (.iconst 2, 1) := by decide +kernel
theorem dX1_violations_78 : decode cX1_violations 78 = .ok (.idiv, 1) := by decide +kernel
theorem dX1_violations_79 : decode cX1_violations 79 = .ok (.ireturn, 1) := by decide +kernel
set_option maxRecDepth 20000 in
theorem ggX1_quarter_X1_plain : GoodIn wsX1_quarter wsX1_plain := goodIn_r _ [6, 7, 8, 9, 10, 11, 12, 13, 14, 15, 16, 17, 18, 19, 20, 21, 22, 23] (by decide +kernel) (by decide +kernel)
set_option maxRecDepth 20000 in
theorem gX1_quarter_X1_plain : GoodIn wsX1_quarter (wsV RX1 128 RX1 yX1_plain wsX1_plain) := goodIn_app (goodIn_of _ (by decide +kernel)) ggX1_quarter_X1_plain
theorem dX1_quarter_0 : decode cX1_quarter 0 = .ok (.aload_n 0, 1) := by decide +kernel
theorem dX1_quarter_1 : decode cX1_quarter 1 = .ok (.aload_n 0, 1) := by decide +kernel
theorem dX1_quarter_2 : decode cX1_quarter 2 = .ok (.getfield 61, 3) := by decide +kernel
theorem dX1_quarter_5 : decode cX1_quarter 5 = .ok (.invokevirtual 128, 3) := by decide +kernel
theorem dX1_quarter_8 : decode cX1_quarter 8 = .ok (.ireturn, 1) := by decide +kernel
set_option maxRecDepth 20000 in
theorem ggX1_due_X1_isUser : GoodIn wsX1_due wsX1_isUser := goodIn_r _ [6, 7, 8, 9, 5, 10] (by decide +kernel) (by decide +kernel)
set_option maxRecDepth 20000 in
theorem gX1_due_X1_isUser : GoodIn wsX1_due (wsV RX1 64 RX1 yX1_isUser wsX1_isUser) := goodIn_app (goodIn_of _ (by decide +kernel)) ggX1_due_X1_isUser
set_option maxRecDepth 20000 in
theorem ggX1_due_X1_holds : GoodIn wsX1_due wsX1_holds := goodIn_r _ [14, 15, 27, 28, 29, 30, 31, 32, 33, 34, 35, 36, 37, 38, 39, 40, 41, 42] (by decide +kernel) (by decide +kernel)
set_option maxRecDepth 20000 in
theorem gX1_due_X1_holds : GoodIn wsX1_due (wsV RX1 71 RX1 yX1_holds wsX1_holds) := goodIn_app (goodIn_of _ (by decide +kernel)) ggX1_due_X1_holds
set_option maxRecDepth 20000 in
theorem ggX1_due_X1_old : GoodIn wsX1_due wsX1_old := goodIn_r _ [19, 20, 21, 22, 23, 24, 25, 5, 26, 27, 28, 29, 30, 31, 32, 33, 34, 35, 36, 37, 38, 39, 40, 41, 42] (by decide +kernel) (by decide +kernel)
set_option maxRecDepth 20000 in
theorem gX1_due_X1_old : GoodIn wsX1_due (wsV RX1 82 RX1 yX1_old wsX1_old) := goodIn_app (goodIn_of _ (by decide +kernel)) ggX1_due_X1_old
theorem dX1_due_0 : decode cX1_due 0 = .ok (.aload_n 0, 1) := by decide +kernel
theorem dX1_due_1 : decode cX1_due 1 = .ok (.aload_n 0, 1) := by decide +kernel
theorem dX1_due_2 : decode cX1_due 2 = .ok (.iload_n 1, 1) := by decide +kernel
theorem dX1_due_3 : decode cX1_due 3 = .ok (.invokevirtual 64, 3) := by decide +kernel
theorem dX1_due_6 : decode cX1_due 6 = .ok (.ifCond .eq 7, 3) := by decide +kernel
theorem dX1_due_9 : decode cX1_due 9 = .ok (.iconst 0, 1) := by decide +kernel
theorem dX1_due_10 : decode cX1_due 10 = .ok (.goto 4, 3) := by decide +kernel
theorem dX1_due_13 : decode cX1_due 13 = .ok (.iconst 1, 1) := by decide +kernel
theorem dX1_due_14 : decode cX1_due 14 = .ok (.invokevirtual 71, 3) := by decide +kernel
theorem dX1_due_17 : decode cX1_due 17 = .ok (.ifCond .eq 7, 3) := by decide +kernel
theorem dX1_due_20 : decode cX1_due 20 = .ok (.iconst (-1), 1) := by decide +kernel
theorem dX1_due_21 : decode cX1_due 21 = .ok (.goto 14, 3) := by decide +kernel
theorem dX1_due_24 : decode cX1_due 24 = .ok (.aload_n 0, 1) := by decide +kernel
theorem dX1_due_25 : decode cX1_due 25 = .ok (.iload_n 1, 1) := by decide +kernel
theorem dX1_due_26 : decode cX1_due 26 = .ok (.aload_n 0, 1) := by decide +kernel
theorem dX1_due_27 : decode cX1_due 27 = .ok (.getfield 61, 3) := by decide +kernel
theorem dX1_due_30 : decode cX1_due 30 = .ok (.iconst 1, 1) := by decide +kernel
theorem dX1_due_31 : decode cX1_due 31 = .ok (.iadd, 1) := by decide +kernel
theorem dX1_due_32 : decode cX1_due 32 = .ok (.invokevirtual 82, 3) := by decide +kernel
theorem dX1_due_35 : decode cX1_due 35 = .ok (.ireturn, 1) := by decide +kernel
set_option maxRecDepth 20000 in
theorem ggX1_candidates_X1_find : GoodIn wsX1_candidates wsX1_find := goodIn_r _ [6, 7, 8, 1, 9, 10, 11, 12, 13, 5, 14, 15, 16, 17, 18, 19, 20, 21, 22, 23, 24, 25, 26, 27, 28, 29, 30, 31, 37, 38, 39, 40, 41, 42, 43, 44, 45, 46, 47, 48, 49, 50, 51, 52] (by decide +kernel) (by decide +kernel)
set_option maxRecDepth 20000 in
theorem gX1_candidates_X1_find : GoodIn wsX1_candidates (wsV RX1 106 RX1 yX1_find wsX1_find) := goodIn_app (goodIn_of _ (by decide +kernel)) ggX1_candidates_X1_find
set_option maxRecDepth 20000 in
theorem ggX1_candidates_X1_plain : GoodIn wsX1_candidates wsX1_plain := goodIn_r _ [35, 36, 37, 38, 39, 40, 41, 42, 43, 44, 45, 46, 47, 48, 49, 50, 51, 52] (by decide +kernel) (by decide +kernel)
set_option maxRecDepth 20000 in
theorem gX1_candidates_X1_plain : GoodIn wsX1_candidates (wsV RX1 128 RX1 yX1_plain wsX1_plain) := goodIn_app (goodIn_of _ (by decide +kernel)) ggX1_candidates_X1_plain
theorem dX1_candidates_0 : decode cX1_candidates 0 = .ok (.aload_n 0, 1) := by decide +kernel
theorem dX1_candidates_1 : decode cX1_candidates 1 = .ok (.invokevirtual 106, 3) := by decide +kernel
theorem dX1_candidates_4 : decode cX1_candidates 4 = .ok (.aload_n 0, 1) := by decide +kernel
theorem dX1_candidates_5 : decode cX1_candidates 5 = .ok (.aload_n 0, 1) := by decide +kernel
theorem dX1_candidates_6 : decode cX1_candidates 6 = .ok (.getfield 86, 3) := by decide +kernel
theorem dX1_candidates_9 : decode cX1_candidates 9 = .ok (.invokevirtual 128, 3) := by decide +kernel
theorem dX1_candidates_12 : decode cX1_candidates 12 = .ok (.ireturn, 1) := by decide +kernel
set_option maxRecDepth 20000 in
theorem ggX1_candidate_X1_find : GoodIn wsX1_candidate wsX1_find := goodIn_r _ [7, 8, 9, 1, 10, 2, 11, 12, 13, 6, 14, 15, 16, 17, 18, 19, 20, 21, 22, 23, 24, 25, 26, 27, 28, 29, 30, 31, 41, 42, 43, 44, 45, 46, 47, 48, 49, 50, 51, 52, 53, 54, 55, 56] (by decide +kernel) (by decide +kernel)
set_option maxRecDepth 20000 in
theorem gX1_candidate_X1_find : GoodIn wsX1_candidate (wsV RX1 106 RX1 yX1_find wsX1_find) := goodIn_app (goodIn_of _ (by decide +kernel)) ggX1_candidate_X1_find
set_option maxRecDepth 20000 in
theorem ggX1_candidate_X1_between : GoodIn wsX1_candidate wsX1_between := goodIn_r _ [35] (by decide +kernel) (by decide +kernel)
set_option maxRecDepth 20000 in
theorem gX1_candidate_X1_between : GoodIn wsX1_candidate (wsV RX1 50 RX1 yX1_between wsX1_between) := goodIn_app (goodIn_of _ (by decide +kernel)) ggX1_candidate_X1_between
set_option maxRecDepth 20000 in
theorem ggX1_candidate_X1_holds : GoodIn wsX1_candidate wsX1_holds := goodIn_r _ [39, 40, 41, 42, 43, 44, 45, 46, 47, 48, 49, 50, 51, 52, 53, 54, 55, 56] (by decide +kernel) (by decide +kernel)
set_option maxRecDepth 20000 in
theorem gX1_candidate_X1_holds : GoodIn wsX1_candidate (wsV RX1 71 RX1 yX1_holds wsX1_holds) := goodIn_app (goodIn_of _ (by decide +kernel)) ggX1_candidate_X1_holds
theorem dX1_candidate_0 : decode cX1_candidate 0 = .ok (.aload_n 0, 1) := by decide +kernel
theorem dX1_candidate_1 : decode cX1_candidate 1 = .ok (.invokevirtual 106, 3) := by decide +kernel
theorem dX1_candidate_4 : decode cX1_candidate 4 = .ok (.aload_n 0, 1) := by decide +kernel
theorem dX1_candidate_5 : decode cX1_candidate 5 = .ok (.aload_n 0, 1) := by decide +kernel
theorem dX1_candidate_6 : decode cX1_candidate 6 = .ok (.iload_n 1, 1) := by decide +kernel
theorem dX1_candidate_7 : decode cX1_candidate 7 = .ok (.iconst 0, 1) := by decide +kernel
theorem dX1_candidate_8 : decode cX1_candidate 8 = .ok (.aload_n 0, 1) := by decide +kernel
theorem dX1_candidate_9 : decode cX1_candidate 9 = .ok (.getfield 86, 3) := by decide +kernel
theorem dX1_candidate_12 : decode cX1_candidate 12 = .ok (.iconst 1, 1) := by decide +kernel
theorem dX1_candidate_13 : decode cX1_candidate 13 = .ok (.isub, 1) := by decide +kernel
theorem dX1_candidate_14 : decode cX1_candidate 14 = .ok (.invokevirtual 50, 3) := by decide +kernel
theorem dX1_candidate_17 : decode cX1_candidate 17 = .ok (.ifCond .eq 7, 3) := by decide +kernel
theorem dX1_candidate_20 : decode cX1_candidate 20 = .ok (.iconst 0, 1) := by decide +kernel
theorem dX1_candidate_21 : decode cX1_candidate 21 = .ok (.goto 4, 3) := by decide +kernel
theorem dX1_candidate_24 : decode cX1_candidate 24 = .ok (.iconst 1, 1) := by decide +kernel
theorem dX1_candidate_25 : decode cX1_candidate 25 = .ok (.invokevirtual 71, 3) := by decide +kernel
theorem dX1_candidate_28 : decode cX1_candidate 28 = .ok (.ifCond .eq 7, 3) := by decide +kernel
theorem dX1_candidate_31 : decode cX1_candidate 31 = .ok (.iconst (-1), 1) := by decide +kernel
theorem dX1_candidate_32 : decode cX1_candidate 32 = .ok (.goto 9, 3) := by decide +kernel
theorem dX1_candidate_35 : decode cX1_candidate 35 = .ok (.aload_n 0, 1) := by decide +kernel
theorem dX1_candidate_36 : decode cX1_candidate 36 = .ok (.getfield 22, 3) := by decide +kernel
theorem dX1_candidate_39 : decode cX1_candidate 39 = .ok (.iload_n 1, 1) := by decide +kernel
theorem dX1_candidate_40 : decode cX1_candidate 40 = .ok (.iaload, 1) := by decide +kernel
theorem dX1_candidate_41 : decode cX1_candidate 41 = .ok (.ireturn, 1) := by decide +kernel
set_option maxRecDepth 20000 in
theorem ggX1_holders_X1_between : GoodIn wsX1_holders wsX1_between := goodIn_r _ [5] (by decide +kernel) (by decide +kernel)
set_option maxRecDepth 20000 in
theorem gX1_holders_X1_between : GoodIn wsX1_holders (wsV RX1 50 RX1 yX1_between wsX1_between) := goodIn_app (goodIn_of _ (by decide +kernel)) ggX1_holders_X1_between
set_option maxRecDepth 20000 in
theorem ggX1_holders_X1_holds : GoodIn wsX1_holders wsX1_holds := goodIn_r _ [9, 10, 20, 21, 22, 23, 24, 25, 26, 27, 28, 29, 30, 31, 32, 33, 34, 35] (by decide +kernel) (by decide +kernel)
set_option maxRecDepth 20000 in
theorem gX1_holders_X1_holds : GoodIn wsX1_holders (wsV RX1 71 RX1 yX1_holds wsX1_holds) := goodIn_app (goodIn_of _ (by decide +kernel)) ggX1_holders_X1_holds
set_option maxRecDepth 20000 in
theorem ggX1_holders_X1_whoHas : GoodIn wsX1_holders wsX1_whoHas := goodIn_r _ [14, 15, 16, 17, 4, 18, 19, 20, 21, 22, 23, 24, 25, 26, 27, 28, 29, 30, 31, 32, 33, 34, 35] (by decide +kernel) (by decide +kernel)
set_option maxRecDepth 20000 in
theorem gX1_holders_X1_whoHas : GoodIn wsX1_holders (wsV RX1 92 RX1 yX1_whoHas wsX1_whoHas) := goodIn_app (goodIn_of _ (by decide +kernel)) ggX1_holders_X1_whoHas
theorem dX1_holders_0 : decode cX1_holders 0 = .ok (.aload_n 0, 1) := by decide +kernel
theorem dX1_holders_1 : decode cX1_holders 1 = .ok (.aload_n 0, 1) := by decide +kernel
theorem dX1_holders_2 : decode cX1_holders 2 = .ok (.iload_n 1, 1) := by decide +kernel
theorem dX1_holders_3 : decode cX1_holders 3 = .ok (.iconst 0, 1) := by decide +kernel
theorem dX1_holders_4 : decode cX1_holders 4 = .ok (.sipush 4095, 3) := by decide +kernel
theorem dX1_holders_7 : decode cX1_holders 7 = .ok (.invokevirtual 50, 3) := by decide +kernel
theorem dX1_holders_10 : decode cX1_holders 10 = .ok (.ifCond .eq 7, 3) := by decide +kernel
theorem dX1_holders_13 : decode cX1_holders 13 = .ok (.iconst 0, 1) := by decide +kernel
theorem dX1_holders_14 : decode cX1_holders 14 = .ok (.goto 4, 3) := by decide +kernel
theorem dX1_holders_17 : decode cX1_holders 17 = .ok (.iconst 1, 1) := by decide +kernel
theorem dX1_holders_18 : decode cX1_holders 18 = .ok (.invokevirtual 71, 3) := by decide +kernel
theorem dX1_holders_21 : decode cX1_holders 21 = .ok (.ifCond .eq 7, 3) := by decide +kernel
theorem dX1_holders_24 : decode cX1_holders 24 = .ok (.iconst (-1), 1) := by decide +kernel
theorem dX1_holders_25 : decode cX1_holders 25 = .ok (.goto 8, 3) := by decide +kernel
theorem dX1_holders_28 : decode cX1_holders 28 = .ok (.aload_n 0, 1) := by decide +kernel
theorem dX1_holders_29 : decode cX1_holders 29 = .ok (.iload_n 1, 1) := by decide +kernel
theorem dX1_holders_30 : decode cX1_holders 30 = .ok (.invokevirtual 92, 3) := by decide +kernel
theorem dX1_holders_33 : decode cX1_holders 33 = .ok (.ireturn, 1) := by decide +kernel
set_option maxRecDepth 20000 in
theorem ggX1_costOf_X1_isTooMuch : GoodIn wsX1_costOf wsX1_isTooMuch := goodIn_r _ [6, 1, 7, 8, 9, 5, 10, 11, 12, 13, 14, 15, 16, 17, 18, 19, 20, 21, 22, 23, 24, 25, 26, 27, 28, 29, 30, 31, 32, 33, 34, 35, 60, 61, 62, 63, 64, 65, 66, 67, 68, 69, 70, 71, 72, 73, 74, 75] (by decide +kernel) (by decide +kernel)
set_option maxRecDepth 20000 in
theorem gX1_costOf_X1_isTooMuch : GoodIn wsX1_costOf (wsV RX1 121 RX1 yX1_isTooMuch wsX1_isTooMuch) := goodIn_app (goodIn_of _ (by decide +kernel)) ggX1_costOf_X1_isTooMuch
set_option maxRecDepth 20000 in
theorem ggX1_costOf_X1_holds : GoodIn wsX1_costOf wsX1_holds := goodIn_r _ [39, 40, 60, 61, 62, 63, 64, 65, 66, 67, 68, 69, 70, 71, 72, 73, 74, 75] (by decide +kernel) (by decide +kernel)
set_option maxRecDepth 20000 in
theorem gX1_costOf_X1_holds : GoodIn wsX1_costOf (wsV RX1 71 RX1 yX1_holds wsX1_holds) := goodIn_app (goodIn_of _ (by decide +kernel)) ggX1_costOf_X1_holds
set_option maxRecDepth 20000 in
theorem ggX1_costOf_X1_price : GoodIn wsX1_costOf wsX1_price := goodIn_r _ [44, 1, 14, 45, 46, 47, 48, 49, 5, 50, 51, 15, 16, 17, 18, 52, 53, 54, 55, 28, 29, 30, 31, 12, 32, 33, 34, 35, 56, 57, 58, 59, 60, 61, 62, 63, 64, 65, 66, 67, 68, 69, 70, 71, 72, 73, 74, 75] (by decide +kernel) (by decide +kernel)
set_option maxRecDepth 20000 in
theorem gX1_costOf_X1_price : GoodIn wsX1_costOf (wsV RX1 115 RX1 yX1_price wsX1_price) := goodIn_app (goodIn_of _ (by decide +kernel)) ggX1_costOf_X1_price
theorem dX1_costOf_0 : decode cX1_costOf 0 = .ok (.aload_n 0, 1) := by decide +kernel
theorem dX1_costOf_1 : decode cX1_costOf 1 = .ok (.aload_n 0, 1) := by decide +kernel
theorem dX1_costOf_2 : decode cX1_costOf 2 = .ok (.invokevirtual 121, 3) := by decide +kernel
theorem dX1_costOf_5 : decode cX1_costOf 5 = .ok (.ifCond .eq 7, 3) := by decide +kernel
theorem dX1_costOf_8 : decode cX1_costOf 8 = .ok (.iconst 1, 1) := by decide +kernel
theorem dX1_costOf_9 : decode cX1_costOf 9 = .ok (.goto 21, 3) := by decide +kernel
theorem dX1_costOf_12 : decode cX1_costOf 12 = .ok (.iload_n 1, 1) := by decide +kernel
theorem dX1_costOf_13 : decode cX1_costOf 13 = .ok (.ifCond .lt 12, 3) := by decide +kernel
theorem dX1_costOf_16 : decode cX1_costOf 16 = .ok (.iload_n 1, 1) := by decide +kernel
theorem dX1_costOf_17 : decode cX1_costOf 17 = .ok (.aload_n 0, 1) := by decide +kernel
theorem dX1_costOf_18 : decode cX1_costOf 18 = .ok (.getfield 86, 3) := by decide +kernel
theorem dX1_costOf_21 : decode cX1_costOf 21 = .ok (.ishr, 1) := by decide +kernel
theorem dX1_costOf_22 : decode cX1_costOf 22 = .ok (.ifCond .eq 7, 3) := by decide +kernel
theorem dX1_costOf_25 : decode cX1_costOf 25 = .ok (.iconst 2, 1) := by decide +kernel
theorem dX1_costOf_26 : decode cX1_costOf 26 = .ok (.goto 4, 3) := by decide +kernel
theorem dX1_costOf_29 : decode cX1_costOf 29 = .ok (.iconst 0, 1) := by decide +kernel
theorem dX1_costOf_30 : decode cX1_costOf 30 = .ok (.invokevirtual 71, 3) := by decide +kernel
theorem dX1_costOf_33 : decode cX1_costOf 33 = .ok (.ifCond .eq 5, 3) := by decide +kernel
theorem dX1_costOf_36 : decode cX1_costOf 36 = .ok (.iconst (-1), 1) := by decide +kernel
theorem dX1_costOf_37 : decode cX1_costOf 37 = .ok (.ireturn, 1) := by decide +kernel
theorem dX1_costOf_38 : decode cX1_costOf 38 = .ok (.aload_n 0, 1) := by decide +kernel
theorem dX1_costOf_39 : decode cX1_costOf 39 = .ok (.iload_n 1, 1) := by decide +kernel
theorem dX1_costOf_40 : decode cX1_costOf 40 = .ok (.invokevirtual 115, 3) := by decide +kernel
theorem dX1_costOf_43 : decode cX1_costOf 43 = .ok (.ireturn, 1) := by decide +kernel
set_option maxRecDepth 20000 in
theorem ggX1_leastCost_X1_isTooMuch : GoodIn wsX1_leastCost wsX1_isTooMuch := goodIn_r _ [6, 1, 7, 8, 9, 5, 10, 11, 12, 13, 14, 15, 16, 17, 18, 19, 20, 21, 22, 23, 24, 25, 26, 27, 28, 29, 30, 31, 32, 33, 34, 35, 60, 61, 62, 63, 64, 65, 66, 67, 68, 69, 70, 71, 72, 73, 74, 75] (by decide +kernel) (by decide +kernel)
set_option maxRecDepth 20000 in
theorem gX1_leastCost_X1_isTooMuch : GoodIn wsX1_leastCost (wsV RX1 121 RX1 yX1_isTooMuch wsX1_isTooMuch) := goodIn_app (goodIn_of _ (by decide +kernel)) ggX1_leastCost_X1_isTooMuch
set_option maxRecDepth 20000 in
theorem ggX1_leastCost_X1_holds : GoodIn wsX1_leastCost wsX1_holds := goodIn_r _ [39, 40, 60, 61, 62, 63, 64, 65, 66, 67, 68, 69, 70, 71, 72, 73, 74, 75] (by decide +kernel) (by decide +kernel)
set_option maxRecDepth 20000 in
theorem gX1_leastCost_X1_holds : GoodIn wsX1_leastCost (wsV RX1 71 RX1 yX1_holds wsX1_holds) := goodIn_app (goodIn_of _ (by decide +kernel)) ggX1_leastCost_X1_holds
set_option maxRecDepth 20000 in
theorem ggX1_leastCost_X1_price : GoodIn wsX1_leastCost wsX1_price := goodIn_r _ [44, 1, 14, 45, 46, 47, 48, 49, 5, 50, 51, 15, 16, 17, 18, 52, 53, 54, 55, 28, 29, 30, 31, 12, 32, 33, 34, 35, 56, 57, 58, 59, 60, 61, 62, 63, 64, 65, 66, 67, 68, 69, 70, 71, 72, 73, 74, 75] (by decide +kernel) (by decide +kernel)
set_option maxRecDepth 20000 in
theorem gX1_leastCost_X1_price : GoodIn wsX1_leastCost (wsV RX1 115 RX1 yX1_price wsX1_price) := goodIn_app (goodIn_of _ (by decide +kernel)) ggX1_leastCost_X1_price
theorem dX1_leastCost_0 : decode cX1_leastCost 0 = .ok (.aload_n 0, 1) := by decide +kernel
theorem dX1_leastCost_1 : decode cX1_leastCost 1 = .ok (.aload_n 0, 1) := by decide +kernel
theorem dX1_leastCost_2 : decode cX1_leastCost 2 = .ok (.invokevirtual 121, 3) := by decide +kernel
theorem dX1_leastCost_5 : decode cX1_leastCost 5 = .ok (.ifCond .eq 7, 3) := by decide +kernel
theorem dX1_leastCost_8 : decode cX1_leastCost 8 = .ok (.iconst 1, 1) := by decide +kernel
theorem dX1_leastCost_9 : decode cX1_leastCost 9 = .ok (.goto 4, 3) := by decide +kernel
theorem dX1_leastCost_12 : decode cX1_leastCost 12 = .ok (.iconst 0, 1) := by decide +kernel
theorem dX1_leastCost_13 : decode cX1_leastCost 13 = .ok (.invokevirtual 71, 3) := by decide +kernel
theorem dX1_leastCost_16 : decode cX1_leastCost 16 = .ok (.ifCond .eq 5, 3) := by decide +kernel
theorem dX1_leastCost_19 : decode cX1_leastCost 19 = .ok (.iconst (-1), 1) := by decide +kernel
theorem dX1_leastCost_20 : decode cX1_leastCost 20 = .ok (.ireturn, 1) := by decide +kernel
theorem dX1_leastCost_21 : decode cX1_leastCost 21 = .ok (.aload_n 0, 1) := by decide +kernel
theorem dX1_leastCost_22 : decode cX1_leastCost 22 = .ok (.iconst 0, 1) := by decide +kernel
theorem dX1_leastCost_23 : decode cX1_leastCost 23 = .ok (.invokevirtual 115, 3) := by decide +kernel
theorem dX1_leastCost_26 : decode cX1_leastCost 26 = .ok (.istore_n 1, 1) := by decide +kernel
theorem dX1_leastCost_27 : decode cX1_leastCost 27 = .ok (.iconst 1, 1) := by decide +kernel
theorem dX1_leastCost_28 : decode cX1_leastCost 28 = .ok (.istore_n 2, 1) := by decide +kernel
theorem dX1_leastCost_29 : decode cX1_leastCost 29 = .ok (.iload_n 2, 1) := by decide +kernel
theorem dX1_leastCost_30 : decode cX1_leastCost 30 = .ok (.iconst 1, 1) := by decide +kernel
theorem dX1_leastCost_31 : decode cX1_leastCost 31 = .ok (.aload_n 0, 1) := by decide +kernel
theorem dX1_leastCost_32 : decode cX1_leastCost 32 = .ok (.getfield 86, 3) := by decide +kernel
theorem dX1_leastCost_35 : decode cX1_leastCost 35 = .ok (.ishl, 1) := by decide +kernel
theorem dX1_leastCost_36 : decode cX1_leastCost 36 = .ok (.if_icmp .ge 26, 3) := by decide +kernel
theorem dX1_leastCost_39 : decode cX1_leastCost 39 = .ok (.aload_n 0, 1) := by decide +kernel
theorem dX1_leastCost_40 : decode cX1_leastCost 40 = .ok (.iload_n 2, 1) := by decide +kernel
theorem dX1_leastCost_41 : decode cX1_leastCost 41 = .ok (.invokevirtual 115, 3) := by decide +kernel
theorem dX1_leastCost_44 : decode cX1_leastCost 44 = .ok (.istore_n 3, 1) := by decide +kernel
theorem dX1_leastCost_45 : decode cX1_leastCost 45 = .ok (.iload_n 3, 1) := by decide +kernel
theorem dX1_leastCost_46 : decode cX1_leastCost 46 = .ok (.iload_n 1, 1) := by decide +kernel
theorem dX1_leastCost_47 : decode cX1_leastCost 47 = .ok (.if_icmp .ge 7, 3) := by decide +kernel
theorem dX1_leastCost_50 : decode cX1_leastCost 50 = .ok (.iload_n 3, 1) := by decide +kernel
theorem dX1_leastCost_51 : decode cX1_leastCost 51 = .ok (.goto 4, 3) := by decide +kernel
theorem dX1_leastCost_54 : decode cX1_leastCost 54 = .ok (.iload_n 1, 1) := by decide +kernel
theorem dX1_leastCost_55 : decode cX1_leastCost 55 = .ok (.istore_n 1, 1) := by decide +kernel
theorem dX1_leastCost_56 : decode cX1_leastCost 56 = .ok (.iinc 2 1, 3) := by decide +kernel
theorem dX1_leastCost_59 : decode cX1_leastCost 59 = .ok (.goto (-30), 3) := by decide +kernel
theorem dX1_leastCost_62 : decode cX1_leastCost 62 = .ok (.iload_n 1, 1) := by decide +kernel
theorem dX1_leastCost_63 : decode cX1_leastCost 63 = .ok (.ireturn, 1) := by decide +kernel
set_option maxRecDepth 20000 in
theorem ggX1_isRole_X1_between : GoodIn wsX1_isRole wsX1_between := goodIn_r _ [6] (by decide +kernel) (by decide +kernel)
set_option maxRecDepth 20000 in
theorem gX1_isRole_X1_between : GoodIn wsX1_isRole (wsV RX1 50 RX1 yX1_between wsX1_between) := goodIn_app (goodIn_of _ (by decide +kernel)) ggX1_isRole_X1_between
theorem dX1_isRole_0 : decode cX1_isRole 0 = .ok (.aload_n 0, 1) := by decide +kernel
theorem dX1_isRole_1 : decode cX1_isRole 1 = .ok (.iload_n 1, 1) := by decide +kernel
theorem dX1_isRole_2 : decode cX1_isRole 2 = .ok (.iconst 0, 1) := by decide +kernel
theorem dX1_isRole_3 : decode cX1_isRole 3 = .ok (.aload_n 0, 1) := by decide +kernel
theorem dX1_isRole_4 : decode cX1_isRole 4 = .ok (.getfield 112, 3) := by decide +kernel
theorem dX1_isRole_7 : decode cX1_isRole 7 = .ok (.iconst 1, 1) := by decide +kernel
theorem dX1_isRole_8 : decode cX1_isRole 8 = .ok (.isub, 1) := by decide +kernel
theorem dX1_isRole_9 : decode cX1_isRole 9 = .ok (.invokevirtual 50, 3) := by decide +kernel
theorem dX1_isRole_12 : decode cX1_isRole 12 = .ok (.ireturn, 1) := by decide +kernel
set_option maxRecDepth 20000 in
theorem ggX1_roles_X1_plain : GoodIn wsX1_roles wsX1_plain := goodIn_r _ [6, 7, 8, 9, 10, 11, 12, 13, 14, 15, 16, 17, 18, 19, 20, 21, 22, 23] (by decide +kernel) (by decide +kernel)
set_option maxRecDepth 20000 in
theorem gX1_roles_X1_plain : GoodIn wsX1_roles (wsV RX1 128 RX1 yX1_plain wsX1_plain) := goodIn_app (goodIn_of _ (by decide +kernel)) ggX1_roles_X1_plain
theorem dX1_roles_0 : decode cX1_roles 0 = .ok (.aload_n 0, 1) := by decide +kernel
theorem dX1_roles_1 : decode cX1_roles 1 = .ok (.aload_n 0, 1) := by decide +kernel
theorem dX1_roles_2 : decode cX1_roles 2 = .ok (.getfield 112, 3) := by decide +kernel
theorem dX1_roles_5 : decode cX1_roles 5 = .ok (.invokevirtual 128, 3) := by decide +kernel
theorem dX1_roles_8 : decode cX1_roles 8 = .ok (.ireturn, 1) := by decide +kernel
set_option maxRecDepth 20000 in
theorem ggX1_role_X1_isRole : GoodIn wsX1_role wsX1_isRole := goodIn_r _ [6, 7, 8, 9, 10, 5, 11, 17, 18, 19, 20, 21, 22, 23, 24, 25, 26, 27, 28, 29, 30, 31, 32] (by decide +kernel) (by decide +kernel)
set_option maxRecDepth 20000 in
theorem gX1_role_X1_isRole : GoodIn wsX1_role (wsV RX1 131 RX1 yX1_isRole wsX1_isRole) := goodIn_app (goodIn_of _ (by decide +kernel)) ggX1_role_X1_isRole
set_option maxRecDepth 20000 in
theorem ggX1_role_X1_holds : GoodIn wsX1_role wsX1_holds := goodIn_r _ [15, 16, 17, 18, 19, 20, 21, 22, 23, 24, 25, 26, 27, 28, 29, 30, 31, 32] (by decide +kernel) (by decide +kernel)
set_option maxRecDepth 20000 in
theorem gX1_role_X1_holds : GoodIn wsX1_role (wsV RX1 71 RX1 yX1_holds wsX1_holds) := goodIn_app (goodIn_of _ (by decide +kernel)) ggX1_role_X1_holds
theorem dX1_role_0 : decode cX1_role 0 = .ok (.aload_n 0, 1) := by decide +kernel
theorem dX1_role_1 : decode cX1_role 1 = .ok (.aload_n 0, 1) := by decide +kernel
theorem dX1_role_2 : decode cX1_role 2 = .ok (.iload_n 1, 1) := by decide +kernel
theorem dX1_role_3 : decode cX1_role 3 = .ok (.invokevirtual 131, 3) := by decide +kernel
theorem dX1_role_6 : decode cX1_role 6 = .ok (.ifCond .eq 7, 3) := by decide +kernel
theorem dX1_role_9 : decode cX1_role 9 = .ok (.iconst 0, 1) := by decide +kernel
theorem dX1_role_10 : decode cX1_role 10 = .ok (.goto 4, 3) := by decide +kernel
theorem dX1_role_13 : decode cX1_role 13 = .ok (.iconst 1, 1) := by decide +kernel
theorem dX1_role_14 : decode cX1_role 14 = .ok (.invokevirtual 71, 3) := by decide +kernel
theorem dX1_role_17 : decode cX1_role 17 = .ok (.ifCond .eq 7, 3) := by decide +kernel
theorem dX1_role_20 : decode cX1_role 20 = .ok (.iconst (-1), 1) := by decide +kernel
theorem dX1_role_21 : decode cX1_role 21 = .ok (.goto 9, 3) := by decide +kernel
theorem dX1_role_24 : decode cX1_role 24 = .ok (.aload_n 0, 1) := by decide +kernel
theorem dX1_role_25 : decode cX1_role 25 = .ok (.getfield 19, 3) := by decide +kernel
theorem dX1_role_28 : decode cX1_role 28 = .ok (.iload_n 1, 1) := by decide +kernel
theorem dX1_role_29 : decode cX1_role 29 = .ok (.iaload, 1) := by decide +kernel
theorem dX1_role_30 : decode cX1_role 30 = .ok (.ireturn, 1) := by decide +kernel
set_option maxRecDepth 20000 in
theorem ggX1_rolesOf_X1_isUser : GoodIn wsX1_rolesOf wsX1_isUser := goodIn_r _ [7, 8, 9, 10, 6, 11] (by decide +kernel) (by decide +kernel)
set_option maxRecDepth 20000 in
theorem gX1_rolesOf_X1_isUser : GoodIn wsX1_rolesOf (wsV RX1 64 RX1 yX1_isUser wsX1_isUser) := goodIn_app (goodIn_of _ (by decide +kernel)) ggX1_rolesOf_X1_isUser
set_option maxRecDepth 20000 in
theorem ggX1_rolesOf_X1_holds : GoodIn wsX1_rolesOf wsX1_holds := goodIn_r _ [15, 16, 22, 23, 24, 25, 26, 27, 28, 29, 30, 31, 32, 33, 34, 35, 36, 37] (by decide +kernel) (by decide +kernel)
set_option maxRecDepth 20000 in
theorem gX1_rolesOf_X1_holds : GoodIn wsX1_rolesOf (wsV RX1 71 RX1 yX1_holds wsX1_holds) := goodIn_app (goodIn_of _ (by decide +kernel)) ggX1_rolesOf_X1_holds
set_option maxRecDepth 20000 in
theorem ggX1_rolesOf_X1_isWithin : GoodIn wsX1_rolesOf wsX1_isWithin := goodIn_r _ [20, 21, 22, 23, 24, 25, 26, 27, 28, 29, 30, 31, 32, 33, 34, 35, 36, 37] (by decide +kernel) (by decide +kernel)
set_option maxRecDepth 20000 in
theorem gX1_rolesOf_X1_isWithin : GoodIn wsX1_rolesOf (wsV RX1 58 RX1 yX1_isWithin wsX1_isWithin) := goodIn_app (goodIn_of _ (by decide +kernel)) ggX1_rolesOf_X1_isWithin
theorem dX1_rolesOf_0 : decode cX1_rolesOf 0 = .ok (.aload_n 0, 1) := by decide +kernel
theorem dX1_rolesOf_1 : decode cX1_rolesOf 1 = .ok (.aload_n 0, 1) := by decide +kernel
theorem dX1_rolesOf_2 : decode cX1_rolesOf 2 = .ok (.iload_n 1, 1) := by decide +kernel
theorem dX1_rolesOf_3 : decode cX1_rolesOf 3 = .ok (.invokevirtual 64, 3) := by decide +kernel
theorem dX1_rolesOf_6 : decode cX1_rolesOf 6 = .ok (.ifCond .eq 7, 3) := by decide +kernel
theorem dX1_rolesOf_9 : decode cX1_rolesOf 9 = .ok (.iconst 0, 1) := by decide +kernel
theorem dX1_rolesOf_10 : decode cX1_rolesOf 10 = .ok (.goto 4, 3) := by decide +kernel
theorem dX1_rolesOf_13 : decode cX1_rolesOf 13 = .ok (.iconst 1, 1) := by decide +kernel
theorem dX1_rolesOf_14 : decode cX1_rolesOf 14 = .ok (.invokevirtual 71, 3) := by decide +kernel
theorem dX1_rolesOf_17 : decode cX1_rolesOf 17 = .ok (.ifCond .eq 5, 3) := by decide +kernel
theorem dX1_rolesOf_20 : decode cX1_rolesOf 20 = .ok (.iconst (-1), 1) := by decide +kernel
theorem dX1_rolesOf_21 : decode cX1_rolesOf 21 = .ok (.ireturn, 1) := by decide +kernel
theorem dX1_rolesOf_22 : decode cX1_rolesOf 22 = .ok (.iconst 0, 1) := by decide +kernel
theorem dX1_rolesOf_23 : decode cX1_rolesOf 23 = .ok (.istore_n 2, 1) := by decide +kernel
theorem dX1_rolesOf_24 : decode cX1_rolesOf 24 = .ok (.iconst 0, 1) := by decide +kernel
theorem dX1_rolesOf_25 : decode cX1_rolesOf 25 = .ok (.istore_n 3, 1) := by decide +kernel
theorem dX1_rolesOf_26 : decode cX1_rolesOf 26 = .ok (.iload_n 3, 1) := by decide +kernel
theorem dX1_rolesOf_27 : decode cX1_rolesOf 27 = .ok (.aload_n 0, 1) := by decide +kernel
theorem dX1_rolesOf_28 : decode cX1_rolesOf 28 = .ok (.getfield 112, 3) := by decide +kernel
theorem dX1_rolesOf_31 : decode cX1_rolesOf 31 = .ok (.if_icmp .ge 31, 3) := by decide +kernel
theorem dX1_rolesOf_34 : decode cX1_rolesOf 34 = .ok (.iload_n 2, 1) := by decide +kernel
theorem dX1_rolesOf_35 : decode cX1_rolesOf 35 = .ok (.aload_n 0, 1) := by decide +kernel
theorem dX1_rolesOf_36 : decode cX1_rolesOf 36 = .ok (.aload_n 0, 1) := by decide +kernel
theorem dX1_rolesOf_37 : decode cX1_rolesOf 37 = .ok (.getfield 19, 3) := by decide +kernel
theorem dX1_rolesOf_40 : decode cX1_rolesOf 40 = .ok (.iload_n 3, 1) := by decide +kernel
theorem dX1_rolesOf_41 : decode cX1_rolesOf 41 = .ok (.iaload, 1) := by decide +kernel
theorem dX1_rolesOf_42 : decode cX1_rolesOf 42 = .ok (.iload_n 1, 1) := by decide +kernel
theorem dX1_rolesOf_43 : decode cX1_rolesOf 43 = .ok (.invokevirtual 58, 3) := by decide +kernel
theorem dX1_rolesOf_46 : decode cX1_rolesOf 46 = .ok (.ifCond .eq 7, 3) := by decide +kernel
theorem dX1_rolesOf_49 : decode cX1_rolesOf 49 = .ok (.iconst 1, 1) := by decide +kernel
theorem dX1_rolesOf_50 : decode cX1_rolesOf 50 = .ok (.goto 4, 3) := by decide +kernel
theorem dX1_rolesOf_53 : decode cX1_rolesOf 53 = .ok (.iconst 0, 1) := by decide +kernel
theorem dX1_rolesOf_54 : decode cX1_rolesOf 54 = .ok (.iadd, 1) := by decide +kernel
theorem dX1_rolesOf_55 : decode cX1_rolesOf 55 = .ok (.istore_n 2, 1) := by decide +kernel
theorem dX1_rolesOf_56 : decode cX1_rolesOf 56 = .ok (.iinc 3 1, 3) := by decide +kernel
theorem dX1_rolesOf_59 : decode cX1_rolesOf 59 = .ok (.goto (-33), 3) := by decide +kernel
theorem dX1_rolesOf_62 : decode cX1_rolesOf 62 = .ok (.iload_n 2, 1) := by decide +kernel
theorem dX1_rolesOf_63 : decode cX1_rolesOf 63 = .ok (.ireturn, 1) := by decide +kernel
set_option maxRecDepth 20000 in
theorem ggX1_gotten_X1_isWithin : GoodIn wsX1_gotten wsX1_isWithin := goodIn_r _ [7, 8, 9, 10, 11, 12, 13, 14, 15, 16, 17, 18, 19, 20, 21, 22, 23, 24] (by decide +kernel) (by decide +kernel)
set_option maxRecDepth 20000 in
theorem gX1_gotten_X1_isWithin : GoodIn wsX1_gotten (wsV RX1 58 RX1 yX1_isWithin wsX1_isWithin) := goodIn_app (goodIn_of _ (by decide +kernel)) ggX1_gotten_X1_isWithin
theorem dX1_gotten_0 : decode cX1_gotten 0 = .ok (.iconst 0, 1) := by decide +kernel
theorem dX1_gotten_1 : decode cX1_gotten 1 = .ok (.istore_n 2, 1) := by decide +kernel
theorem dX1_gotten_2 : decode cX1_gotten 2 = .ok (.iconst 0, 1) := by decide +kernel
theorem dX1_gotten_3 : decode cX1_gotten 3 = .ok (.istore_n 3, 1) := by decide +kernel
theorem dX1_gotten_4 : decode cX1_gotten 4 = .ok (.iload_n 3, 1) := by decide +kernel
theorem dX1_gotten_5 : decode cX1_gotten 5 = .ok (.aload_n 0, 1) := by decide +kernel
theorem dX1_gotten_6 : decode cX1_gotten 6 = .ok (.getfield 112, 3) := by decide +kernel
theorem dX1_gotten_9 : decode cX1_gotten 9 = .ok (.if_icmp .ge 36, 3) := by decide +kernel
theorem dX1_gotten_12 : decode cX1_gotten 12 = .ok (.iload_n 2, 1) := by decide +kernel
theorem dX1_gotten_13 : decode cX1_gotten 13 = .ok (.aload_n 0, 1) := by decide +kernel
theorem dX1_gotten_14 : decode cX1_gotten 14 = .ok (.aload_n 0, 1) := by decide +kernel
theorem dX1_gotten_15 : decode cX1_gotten 15 = .ok (.getfield 19, 3) := by decide +kernel
theorem dX1_gotten_18 : decode cX1_gotten 18 = .ok (.iload_n 3, 1) := by decide +kernel
theorem dX1_gotten_19 : decode cX1_gotten 19 = .ok (.iaload, 1) := by decide +kernel
theorem dX1_gotten_20 : decode cX1_gotten 20 = .ok (.iload_n 1, 1) := by decide +kernel
theorem dX1_gotten_21 : decode cX1_gotten 21 = .ok (.invokevirtual 58, 3) := by decide +kernel
theorem dX1_gotten_24 : decode cX1_gotten 24 = .ok (.ifCond .eq 12, 3) := by decide +kernel
theorem dX1_gotten_27 : decode cX1_gotten 27 = .ok (.aload_n 0, 1) := by decide +kernel
theorem dX1_gotten_28 : decode cX1_gotten 28 = .ok (.getfield 19, 3) := by decide +kernel
theorem dX1_gotten_31 : decode cX1_gotten 31 = .ok (.iload_n 3, 1) := by decide +kernel
theorem dX1_gotten_32 : decode cX1_gotten 32 = .ok (.iaload, 1) := by decide +kernel
theorem dX1_gotten_33 : decode cX1_gotten 33 = .ok (.goto 4, 3) := by decide +kernel
theorem dX1_gotten_36 : decode cX1_gotten 36 = .ok (.iconst 0, 1) := by decide +kernel
theorem dX1_gotten_37 : decode cX1_gotten 37 = .ok (.ior, 1) := by decide +kernel
theorem dX1_gotten_38 : decode cX1_gotten 38 = .ok (.istore_n 2, 1) := by decide +kernel
theorem dX1_gotten_39 : decode cX1_gotten 39 = .ok (.iinc 3 1, 3) := by decide +kernel
theorem dX1_gotten_42 : decode cX1_gotten 42 = .ok (.goto (-38), 3) := by decide +kernel
theorem dX1_gotten_45 : decode cX1_gotten 45 = .ok (.iload_n 2, 1) := by decide +kernel
theorem dX1_gotten_46 : decode cX1_gotten 46 = .ok (.ireturn, 1) := by decide +kernel
set_option maxRecDepth 20000 in
theorem ggX1_byRoles_X1_isUser : GoodIn wsX1_byRoles wsX1_isUser := goodIn_r _ [5, 6, 7, 8, 4, 9] (by decide +kernel) (by decide +kernel)
set_option maxRecDepth 20000 in
theorem gX1_byRoles_X1_isUser : GoodIn wsX1_byRoles (wsV RX1 64 RX1 yX1_isUser wsX1_isUser) := goodIn_app (goodIn_of _ (by decide +kernel)) ggX1_byRoles_X1_isUser
set_option maxRecDepth 20000 in
theorem ggX1_byRoles_X1_holds : GoodIn wsX1_byRoles wsX1_holds := goodIn_r _ [13, 14, 26, 27, 28, 29, 30, 31, 32, 33, 34, 35, 36, 37, 38, 39, 40, 41] (by decide +kernel) (by decide +kernel)
set_option maxRecDepth 20000 in
theorem gX1_byRoles_X1_holds : GoodIn wsX1_byRoles (wsV RX1 71 RX1 yX1_holds wsX1_holds) := goodIn_app (goodIn_of _ (by decide +kernel)) ggX1_byRoles_X1_holds
set_option maxRecDepth 20000 in
theorem ggX1_byRoles_X1_gotten : GoodIn wsX1_byRoles wsX1_gotten := goodIn_r _ [18, 19, 20, 21, 22, 23, 4, 24, 25, 26, 27, 28, 29, 30, 31, 32, 33, 34, 35, 36, 37, 38, 39, 40, 41] (by decide +kernel) (by decide +kernel)
set_option maxRecDepth 20000 in
theorem gX1_byRoles_X1_gotten : GoodIn wsX1_byRoles (wsV RX1 134 RX1 yX1_gotten wsX1_gotten) := goodIn_app (goodIn_of _ (by decide +kernel)) ggX1_byRoles_X1_gotten
theorem dX1_byRoles_0 : decode cX1_byRoles 0 = .ok (.aload_n 0, 1) := by decide +kernel
theorem dX1_byRoles_1 : decode cX1_byRoles 1 = .ok (.aload_n 0, 1) := by decide +kernel
theorem dX1_byRoles_2 : decode cX1_byRoles 2 = .ok (.iload_n 1, 1) := by decide +kernel
theorem dX1_byRoles_3 : decode cX1_byRoles 3 = .ok (.invokevirtual 64, 3) := by decide +kernel
theorem dX1_byRoles_6 : decode cX1_byRoles 6 = .ok (.ifCond .eq 7, 3) := by decide +kernel
theorem dX1_byRoles_9 : decode cX1_byRoles 9 = .ok (.iconst 0, 1) := by decide +kernel
theorem dX1_byRoles_10 : decode cX1_byRoles 10 = .ok (.goto 4, 3) := by decide +kernel
theorem dX1_byRoles_13 : decode cX1_byRoles 13 = .ok (.iconst 1, 1) := by decide +kernel
theorem dX1_byRoles_14 : decode cX1_byRoles 14 = .ok (.invokevirtual 71, 3) := by decide +kernel
theorem dX1_byRoles_17 : decode cX1_byRoles 17 = .ok (.ifCond .eq 7, 3) := by decide +kernel
theorem dX1_byRoles_20 : decode cX1_byRoles 20 = .ok (.iconst (-1), 1) := by decide +kernel
theorem dX1_byRoles_21 : decode cX1_byRoles 21 = .ok (.goto 8, 3) := by decide +kernel
theorem dX1_byRoles_24 : decode cX1_byRoles 24 = .ok (.aload_n 0, 1) := by decide +kernel
theorem dX1_byRoles_25 : decode cX1_byRoles 25 = .ok (.iload_n 1, 1) := by decide +kernel
theorem dX1_byRoles_26 : decode cX1_byRoles 26 = .ok (.invokevirtual 134, 3) := by decide +kernel
theorem dX1_byRoles_29 : decode cX1_byRoles 29 = .ok (.ireturn, 1) := by decide +kernel
set_option maxRecDepth 20000 in
theorem ggX1_exceptions_X1_isUser : GoodIn wsX1_exceptions wsX1_isUser := goodIn_r _ [6, 7, 8, 9, 5, 10] (by decide +kernel) (by decide +kernel)
set_option maxRecDepth 20000 in
theorem gX1_exceptions_X1_isUser : GoodIn wsX1_exceptions (wsV RX1 64 RX1 yX1_isUser wsX1_isUser) := goodIn_app (goodIn_of _ (by decide +kernel)) ggX1_exceptions_X1_isUser
set_option maxRecDepth 20000 in
theorem ggX1_exceptions_X1_holds : GoodIn wsX1_exceptions wsX1_holds := goodIn_r _ [14, 15, 26, 27, 28, 29, 30, 31, 32, 33, 34, 35, 36, 37, 38, 39, 40, 41] (by decide +kernel) (by decide +kernel)
set_option maxRecDepth 20000 in
theorem gX1_exceptions_X1_holds : GoodIn wsX1_exceptions (wsV RX1 71 RX1 yX1_holds wsX1_holds) := goodIn_app (goodIn_of _ (by decide +kernel)) ggX1_exceptions_X1_holds
set_option maxRecDepth 20000 in
theorem ggX1_exceptions_X1_gotten : GoodIn wsX1_exceptions wsX1_gotten := goodIn_r _ [19, 20, 21, 22, 23, 24, 5, 25, 1, 26, 27, 28, 29, 30, 31, 32, 33, 34, 35, 36, 37, 38, 39, 40, 41] (by decide +kernel) (by decide +kernel)
set_option maxRecDepth 20000 in
theorem gX1_exceptions_X1_gotten : GoodIn wsX1_exceptions (wsV RX1 134 RX1 yX1_gotten wsX1_gotten) := goodIn_app (goodIn_of _ (by decide +kernel)) ggX1_exceptions_X1_gotten
theorem dX1_exceptions_0 : decode cX1_exceptions 0 = .ok (.aload_n 0, 1) := by decide +kernel
theorem dX1_exceptions_1 : decode cX1_exceptions 1 = .ok (.aload_n 0, 1) := by decide +kernel
theorem dX1_exceptions_2 : decode cX1_exceptions 2 = .ok (.iload_n 1, 1) := by decide +kernel
theorem dX1_exceptions_3 : decode cX1_exceptions 3 = .ok (.invokevirtual 64, 3) := by decide +kernel
theorem dX1_exceptions_6 : decode cX1_exceptions 6 = .ok (.ifCond .eq 7, 3) := by decide +kernel
theorem dX1_exceptions_9 : decode cX1_exceptions 9 = .ok (.iconst 0, 1) := by decide +kernel
theorem dX1_exceptions_10 : decode cX1_exceptions 10 = .ok (.goto 4, 3) := by decide +kernel
theorem dX1_exceptions_13 : decode cX1_exceptions 13 = .ok (.iconst 1, 1) := by decide +kernel
theorem dX1_exceptions_14 : decode cX1_exceptions 14 = .ok (.invokevirtual 71, 3) := by decide +kernel
theorem dX1_exceptions_17 : decode cX1_exceptions 17 = .ok (.ifCond .eq 7, 3) := by decide +kernel
theorem dX1_exceptions_20 : decode cX1_exceptions 20 = .ok (.iconst (-1), 1) := by decide +kernel
theorem dX1_exceptions_21 : decode cX1_exceptions 21 = .ok (.goto 17, 3) := by decide +kernel
theorem dX1_exceptions_24 : decode cX1_exceptions 24 = .ok (.aload_n 0, 1) := by decide +kernel
theorem dX1_exceptions_25 : decode cX1_exceptions 25 = .ok (.getfield 7, 3) := by decide +kernel
theorem dX1_exceptions_28 : decode cX1_exceptions 28 = .ok (.iload_n 1, 1) := by decide +kernel
theorem dX1_exceptions_29 : decode cX1_exceptions 29 = .ok (.iaload, 1) := by decide +kernel
theorem dX1_exceptions_30 : decode cX1_exceptions 30 = .ok (.aload_n 0, 1) := by decide +kernel
theorem dX1_exceptions_31 : decode cX1_exceptions 31 = .ok (.iload_n 1, 1) := by decide +kernel
theorem dX1_exceptions_32 : decode cX1_exceptions 32 = .ok (.invokevirtual 134, 3) := by decide +kernel
theorem dX1_exceptions_35 : decode cX1_exceptions 35 = .ok (.iconst (-1), 1) := by decide +kernel
theorem dX1_exceptions_36 : decode cX1_exceptions 36 = .ok (.ixor, 1) := by decide +kernel
theorem dX1_exceptions_37 : decode cX1_exceptions 37 = .ok (.iand, 1) := by decide +kernel
theorem dX1_exceptions_38 : decode cX1_exceptions 38 = .ok (.ireturn, 1) := by decide +kernel
set_option maxRecDepth 20000 in
theorem ggX1_cost_X1_gotten : GoodIn wsX1_cost wsX1_gotten := goodIn_r _ [10, 3, 11, 12, 13, 14, 9, 15, 5, 20, 21, 22, 23, 24, 25, 26, 27, 28, 29, 30, 31, 32, 33, 34, 35] (by decide +kernel) (by decide +kernel)
set_option maxRecDepth 20000 in
theorem gX1_cost_X1_gotten : GoodIn wsX1_cost (wsV RX1 134 RX1 yX1_gotten wsX1_gotten) := goodIn_app (goodIn_of _ (by decide +kernel)) ggX1_cost_X1_gotten
set_option maxRecDepth 20000 in
theorem ggX1_cost_X1_size : GoodIn wsX1_cost wsX1_size := goodIn_r _ [19] (by decide +kernel) (by decide +kernel)
set_option maxRecDepth 20000 in
theorem gX1_cost_X1_size : GoodIn wsX1_cost (wsV RX1 78 RX1 yX1_size wsX1_size) := goodIn_app (goodIn_of _ (by decide +kernel)) ggX1_cost_X1_size
theorem dX1_cost_0 : decode cX1_cost 0 = .ok (.aload_n 0, 1) := by decide +kernel
theorem dX1_cost_1 : decode cX1_cost 1 = .ok (.iconst 0, 1) := by decide +kernel
theorem dX1_cost_2 : decode cX1_cost 2 = .ok (.putfield 47, 3) := by decide +kernel
theorem dX1_cost_5 : decode cX1_cost 5 = .ok (.aload_n 0, 1) := by decide +kernel
theorem dX1_cost_6 : decode cX1_cost 6 = .ok (.getfield 34, 3) := by decide +kernel
theorem dX1_cost_9 : decode cX1_cost 9 = .ok (.aload_n 0, 1) := by decide +kernel
theorem dX1_cost_10 : decode cX1_cost 10 = .ok (.getfield 112, 3) := by decide +kernel
theorem dX1_cost_13 : decode cX1_cost 13 = .ok (.imul, 1) := by decide +kernel
theorem dX1_cost_14 : decode cX1_cost 14 = .ok (.istore_n 1, 1) := by decide +kernel
theorem dX1_cost_15 : decode cX1_cost 15 = .ok (.iconst 0, 1) := by decide +kernel
theorem dX1_cost_16 : decode cX1_cost 16 = .ok (.istore_n 2, 1) := by decide +kernel
theorem dX1_cost_17 : decode cX1_cost 17 = .ok (.iload_n 2, 1) := by decide +kernel
theorem dX1_cost_18 : decode cX1_cost 18 = .ok (.bipush 8, 2) := by decide +kernel
theorem dX1_cost_20 : decode cX1_cost 20 = .ok (.if_icmp .ge 35, 3) := by decide +kernel
theorem dX1_cost_23 : decode cX1_cost 23 = .ok (.iload_n 1, 1) := by decide +kernel
theorem dX1_cost_24 : decode cX1_cost 24 = .ok (.aload_n 0, 1) := by decide +kernel
theorem dX1_cost_25 : decode cX1_cost 25 = .ok (.getfield 38, 3) := by decide +kernel
theorem dX1_cost_28 : decode cX1_cost 28 = .ok (.aload_n 0, 1) := by decide +kernel
theorem dX1_cost_29 : decode cX1_cost 29 = .ok (.aload_n 0, 1) := by decide +kernel
theorem dX1_cost_30 : decode cX1_cost 30 = .ok (.getfield 7, 3) := by decide +kernel
theorem dX1_cost_33 : decode cX1_cost 33 = .ok (.iload_n 2, 1) := by decide +kernel
theorem dX1_cost_34 : decode cX1_cost 34 = .ok (.iaload, 1) := by decide +kernel
theorem dX1_cost_35 : decode cX1_cost 35 = .ok (.aload_n 0, 1) := by decide +kernel
theorem dX1_cost_36 : decode cX1_cost 36 = .ok (.iload_n 2, 1) := by decide +kernel
theorem dX1_cost_37 : decode cX1_cost 37 = .ok (.invokevirtual 134, 3) := by decide +kernel
theorem dX1_cost_40 : decode cX1_cost 40 = .ok (.iconst (-1), 1) := by decide +kernel
theorem dX1_cost_41 : decode cX1_cost 41 = .ok (.ixor, 1) := by decide +kernel
theorem dX1_cost_42 : decode cX1_cost 42 = .ok (.iand, 1) := by decide +kernel
theorem dX1_cost_43 : decode cX1_cost 43 = .ok (.invokevirtual 78, 3) := by decide +kernel
theorem dX1_cost_46 : decode cX1_cost 46 = .ok (.imul, 1) := by decide +kernel
theorem dX1_cost_47 : decode cX1_cost 47 = .ok (.iadd, 1) := by decide +kernel
theorem dX1_cost_48 : decode cX1_cost 48 = .ok (.istore_n 1, 1) := by decide +kernel
theorem dX1_cost_49 : decode cX1_cost 49 = .ok (.iinc 2 1, 3) := by decide +kernel
theorem dX1_cost_52 : decode cX1_cost 52 = .ok (.goto (-35), 3) := by decide +kernel
theorem dX1_cost_55 : decode cX1_cost 55 = .ok (.iload_n 1, 1) := by decide +kernel
theorem dX1_cost_56 : decode cX1_cost 56 = .ok (.ireturn, 1) := by decide +kernel
set_option maxRecDepth 20000 in
theorem ggX1_isRisky_X1_isRole : GoodIn wsX1_isRisky wsX1_isRole := goodIn_r _ [7, 1, 8, 9, 10, 6, 11, 31, 32, 33, 34, 35, 36, 37, 38, 39, 40, 41, 42, 43, 44, 45, 46] (by decide +kernel) (by decide +kernel)
set_option maxRecDepth 20000 in
theorem gX1_isRisky_X1_isRole : GoodIn wsX1_isRisky (wsV RX1 131 RX1 yX1_isRole wsX1_isRole) := goodIn_app (goodIn_of _ (by decide +kernel)) ggX1_isRisky_X1_isRole
set_option maxRecDepth 20000 in
theorem ggX1_isRisky_X1_holds : GoodIn wsX1_isRisky wsX1_holds := goodIn_r _ [15, 16, 31, 32, 33, 34, 35, 36, 37, 38, 39, 40, 41, 42, 43, 44, 45, 46] (by decide +kernel) (by decide +kernel)
set_option maxRecDepth 20000 in
theorem gX1_isRisky_X1_holds : GoodIn wsX1_isRisky (wsV RX1 71 RX1 yX1_holds wsX1_holds) := goodIn_app (goodIn_of _ (by decide +kernel)) ggX1_isRisky_X1_holds
set_option maxRecDepth 20000 in
theorem ggX1_isRisky_X1_isWithin : GoodIn wsX1_isRisky wsX1_isWithin := goodIn_r _ [20, 21, 31, 32, 33, 34, 35, 36, 37, 38, 39, 40, 41, 42, 43, 44, 45, 46] (by decide +kernel) (by decide +kernel)
set_option maxRecDepth 20000 in
theorem gX1_isRisky_X1_isWithin : GoodIn wsX1_isRisky (wsV RX1 58 RX1 yX1_isWithin wsX1_isWithin) := goodIn_app (goodIn_of _ (by decide +kernel)) ggX1_isRisky_X1_isWithin
set_option maxRecDepth 20000 in
theorem ggX1_isRisky_X1_isProper : GoodIn wsX1_isRisky wsX1_isProper := goodIn_r _ [25, 26, 27, 28, 29, 6, 30, 31, 32, 33, 34, 35, 36, 37, 38, 39, 40, 41, 42, 43, 44, 45, 46] (by decide +kernel) (by decide +kernel)
set_option maxRecDepth 20000 in
theorem gX1_isRisky_X1_isProper : GoodIn wsX1_isRisky (wsV RX1 89 RX1 yX1_isProper wsX1_isProper) := goodIn_app (goodIn_of _ (by decide +kernel)) ggX1_isRisky_X1_isProper
theorem dX1_isRisky_0 : decode cX1_isRisky 0 = .ok (.aload_n 0, 1) := by decide +kernel
theorem dX1_isRisky_1 : decode cX1_isRisky 1 = .ok (.aload_n 0, 1) := by decide +kernel
theorem dX1_isRisky_2 : decode cX1_isRisky 2 = .ok (.iload_n 1, 1) := by decide +kernel
theorem dX1_isRisky_3 : decode cX1_isRisky 3 = .ok (.invokevirtual 131, 3) := by decide +kernel
theorem dX1_isRisky_6 : decode cX1_isRisky 6 = .ok (.ifCond .eq 7, 3) := by decide +kernel
theorem dX1_isRisky_9 : decode cX1_isRisky 9 = .ok (.iconst 0, 1) := by decide +kernel
theorem dX1_isRisky_10 : decode cX1_isRisky 10 = .ok (.goto 4, 3) := by decide +kernel
theorem dX1_isRisky_13 : decode cX1_isRisky 13 = .ok (.iconst 1, 1) := by decide +kernel
theorem dX1_isRisky_14 : decode cX1_isRisky 14 = .ok (.invokevirtual 71, 3) := by decide +kernel
theorem dX1_isRisky_17 : decode cX1_isRisky 17 = .ok (.ifCond .eq 5, 3) := by decide +kernel
theorem dX1_isRisky_20 : decode cX1_isRisky 20 = .ok (.iconst 0, 1) := by decide +kernel
theorem dX1_isRisky_21 : decode cX1_isRisky 21 = .ok (.ireturn, 1) := by decide +kernel
theorem dX1_isRisky_22 : decode cX1_isRisky 22 = .ok (.iconst 0, 1) := by decide +kernel
theorem dX1_isRisky_23 : decode cX1_isRisky 23 = .ok (.istore_n 2, 1) := by decide +kernel
theorem dX1_isRisky_24 : decode cX1_isRisky 24 = .ok (.iload_n 2, 1) := by decide +kernel
theorem dX1_isRisky_25 : decode cX1_isRisky 25 = .ok (.bipush 8, 2) := by decide +kernel
theorem dX1_isRisky_27 : decode cX1_isRisky 27 = .ok (.if_icmp .ge 73, 3) := by decide +kernel
theorem dX1_isRisky_30 : decode cX1_isRisky 30 = .ok (.iconst 0, 1) := by decide +kernel
theorem dX1_isRisky_31 : decode cX1_isRisky 31 = .ok (.istore_n 3, 1) := by decide +kernel
theorem dX1_isRisky_32 : decode cX1_isRisky 32 = .ok (.iload_n 3, 1) := by decide +kernel
theorem dX1_isRisky_33 : decode cX1_isRisky 33 = .ok (.aload_n 0, 1) := by decide +kernel
theorem dX1_isRisky_34 : decode cX1_isRisky 34 = .ok (.getfield 112, 3) := by decide +kernel
theorem dX1_isRisky_37 : decode cX1_isRisky 37 = .ok (.if_icmp .ge 57, 3) := by decide +kernel
theorem dX1_isRisky_40 : decode cX1_isRisky 40 = .ok (.iload_n 3, 1) := by decide +kernel
theorem dX1_isRisky_41 : decode cX1_isRisky 41 = .ok (.iload_n 1, 1) := by decide +kernel
theorem dX1_isRisky_42 : decode cX1_isRisky 42 = .ok (.if_icmp .eq 46, 3) := by decide +kernel
theorem dX1_isRisky_45 : decode cX1_isRisky 45 = .ok (.aload_n 0, 1) := by decide +kernel
theorem dX1_isRisky_46 : decode cX1_isRisky 46 = .ok (.aload_n 0, 1) := by decide +kernel
theorem dX1_isRisky_47 : decode cX1_isRisky 47 = .ok (.getfield 19, 3) := by decide +kernel
theorem dX1_isRisky_50 : decode cX1_isRisky 50 = .ok (.iload_n 1, 1) := by decide +kernel
theorem dX1_isRisky_51 : decode cX1_isRisky 51 = .ok (.iaload, 1) := by decide +kernel
theorem dX1_isRisky_52 : decode cX1_isRisky 52 = .ok (.aload_n 0, 1) := by decide +kernel
theorem dX1_isRisky_53 : decode cX1_isRisky 53 = .ok (.getfield 19, 3) := by decide +kernel
theorem dX1_isRisky_56 : decode cX1_isRisky 56 = .ok (.iload_n 3, 1) := by decide +kernel
theorem dX1_isRisky_57 : decode cX1_isRisky 57 = .ok (.iaload, 1) := by decide +kernel
theorem dX1_isRisky_58 : decode cX1_isRisky 58 = .ok (.ior, 1) := by decide +kernel
theorem dX1_isRisky_59 : decode cX1_isRisky 59 = .ok (.iload_n 2, 1) := by decide +kernel
theorem dX1_isRisky_60 : decode cX1_isRisky 60 = .ok (.invokevirtual 58, 3) := by decide +kernel
theorem dX1_isRisky_63 : decode cX1_isRisky 63 = .ok (.ifCond .eq 25, 3) := by decide +kernel
theorem dX1_isRisky_66 : decode cX1_isRisky 66 = .ok (.aload_n 0, 1) := by decide +kernel
theorem dX1_isRisky_67 : decode cX1_isRisky 67 = .ok (.aload_n 0, 1) := by decide +kernel
theorem dX1_isRisky_68 : decode cX1_isRisky 68 = .ok (.getfield 19, 3) := by decide +kernel
theorem dX1_isRisky_71 : decode cX1_isRisky 71 = .ok (.iload_n 1, 1) := by decide +kernel
theorem dX1_isRisky_72 : decode cX1_isRisky 72 = .ok (.iaload, 1) := by decide +kernel
theorem dX1_isRisky_73 : decode cX1_isRisky 73 = .ok (.aload_n 0, 1) := by decide +kernel
theorem dX1_isRisky_74 : decode cX1_isRisky 74 = .ok (.getfield 19, 3) := by decide +kernel
theorem dX1_isRisky_77 : decode cX1_isRisky 77 = .ok (.iload_n 3, 1) := by decide +kernel
theorem dX1_isRisky_78 : decode cX1_isRisky 78 = .ok (.iaload, 1) := by decide +kernel
theorem dX1_isRisky_79 : decode cX1_isRisky 79 = .ok (.ior, 1) := by decide +kernel
theorem dX1_isRisky_80 : decode cX1_isRisky 80 = .ok (.invokevirtual 89, 3) := by decide +kernel
theorem dX1_isRisky_83 : decode cX1_isRisky 83 = .ok (.ifCond .ne 5, 3) := by decide +kernel
theorem dX1_isRisky_86 : decode cX1_isRisky 86 = .ok (.iconst 1, 1) := by decide +kernel
theorem dX1_isRisky_87 : decode cX1_isRisky 87 = .ok (.ireturn, 1) := by decide +kernel
theorem dX1_isRisky_88 : decode cX1_isRisky 88 = .ok (.iinc 3 1, 3) := by decide +kernel
theorem dX1_isRisky_91 : decode cX1_isRisky 91 = .ok (.goto (-59), 3) := by decide +kernel
theorem dX1_isRisky_94 : decode cX1_isRisky 94 = .ok (.iinc 2 1, 3) := by decide +kernel
theorem dX1_isRisky_97 : decode cX1_isRisky 97 = .ok (.goto (-73), 3) := by decide +kernel
theorem dX1_isRisky_100 : decode cX1_isRisky 100 = .ok (.iconst 0, 1) := by decide +kernel
theorem dX1_isRisky_101 : decode cX1_isRisky 101 = .ok (.ireturn, 1) := by decide +kernel
