theorem dX0_init_0 : decode cX0_init 0 = .ok (.aload_n 0, 1) := by decide +kernel
theorem dX0_init_1 : decode cX0_init 1 = .ok (.invokespecial 1, 3) := by decide +kernel
theorem dX0_init_4 : decode cX0_init 4 = .ok (.aload_n 0, 1) := by decide +kernel
theorem dX0_init_5 : decode cX0_init 5 = .ok (.bipush 8, 2) := by decide +kernel
theorem dX0_init_7 : decode cX0_init 7 = .ok (.newarray .int, 2) := by decide +kernel
theorem dX0_init_9 : decode cX0_init 9 = .ok (.putfield 9, 3) := by decide +kernel
theorem dX0_init_12 : decode cX0_init 12 = .ok (.aload_n 0, 1) := by decide +kernel
theorem dX0_init_13 : decode cX0_init 13 = .ok (.bipush 96, 2) := by decide +kernel
theorem dX0_init_15 : decode cX0_init 15 = .ok (.newarray .int, 2) := by decide +kernel
theorem dX0_init_17 : decode cX0_init 17 = .ok (.putfield 13, 3) := by decide +kernel
theorem dX0_init_20 : decode cX0_init 20 = .ok (.aload_n 0, 1) := by decide +kernel
theorem dX0_init_21 : decode cX0_init 21 = .ok (.bipush 12, 2) := by decide +kernel
theorem dX0_init_23 : decode cX0_init 23 = .ok (.newarray .int, 2) := by decide +kernel
theorem dX0_init_25 : decode cX0_init 25 = .ok (.putfield 16, 3) := by decide +kernel
theorem dX0_init_28 : decode cX0_init 28 = .ok (.aload_n 0, 1) := by decide +kernel
theorem dX0_init_29 : decode cX0_init 29 = .ok (.iconst 5, 1) := by decide +kernel
theorem dX0_init_30 : decode cX0_init 30 = .ok (.putfield 19, 3) := by decide +kernel
theorem dX0_init_33 : decode cX0_init 33 = .ok (.aload_n 0, 1) := by decide +kernel
theorem dX0_init_34 : decode cX0_init 34 = .ok (.iconst 2, 1) := by decide +kernel
theorem dX0_init_35 : decode cX0_init 35 = .ok (.putfield 23, 3) := by decide +kernel
theorem dX0_init_38 : decode cX0_init 38 = .ok (.aload_n 0, 1) := by decide +kernel
theorem dX0_init_39 : decode cX0_init 39 = .ok (.iconst 1, 1) := by decide +kernel
theorem dX0_init_40 : decode cX0_init 40 = .ok (.putfield 26, 3) := by decide +kernel
theorem dX0_init_43 : decode cX0_init 43 = .ok (.aload_n 0, 1) := by decide +kernel
theorem dX0_init_44 : decode cX0_init 44 = .ok (.iconst 4, 1) := by decide +kernel
theorem dX0_init_45 : decode cX0_init 45 = .ok (.putfield 29, 3) := by decide +kernel
theorem dX0_init_48 : decode cX0_init 48 = .ok (.aload_n 0, 1) := by decide +kernel
theorem dX0_init_49 : decode cX0_init 49 = .ok (.iconst 0, 1) := by decide +kernel
theorem dX0_init_50 : decode cX0_init 50 = .ok (.putfield 32, 3) := by decide +kernel
theorem dX0_init_53 : decode cX0_init 53 = .ok (.aload_n 0, 1) := by decide +kernel
theorem dX0_init_54 : decode cX0_init 54 = .ok (.sipush 255, 3) := by decide +kernel
theorem dX0_init_57 : decode cX0_init 57 = .ok (.newarray .int, 2) := by decide +kernel
theorem dX0_init_59 : decode cX0_init 59 = .ok (.putfield 35, 3) := by decide +kernel
theorem dX0_init_62 : decode cX0_init 62 = .ok (.aload_n 0, 1) := by decide +kernel
theorem dX0_init_63 : decode cX0_init 63 = .ok (.iconst 0, 1) := by decide +kernel
theorem dX0_init_64 : decode cX0_init 64 = .ok (.putfield 38, 3) := by decide +kernel
theorem dX0_init_67 : decode cX0_init 67 = .ok (.aload_n 0, 1) := by decide +kernel
theorem dX0_init_68 : decode cX0_init 68 = .ok (.sipush 255, 3) := by decide +kernel
theorem dX0_init_71 : decode cX0_init 71 = .ok (.newarray .int, 2) := by decide +kernel
theorem dX0_init_73 : decode cX0_init 73 = .ok (.putfield 41, 3) := by decide +kernel
theorem dX0_init_76 : decode cX0_init 76 = .ok (.aload_n 0, 1) := by decide +kernel
theorem dX0_init_77 : decode cX0_init 77 = .ok (.iconst 0, 1) := by decide +kernel
theorem dX0_init_78 : decode cX0_init 78 = .ok (.putfield 44, 3) := by decide +kernel
theorem dX0_init_81 : decode cX0_init 81 = .ok (.aload_n 0, 1) := by decide +kernel
theorem dX0_init_82 : decode cX0_init 82 = .ok (.sipush 255, 3) := by decide +kernel
theorem dX0_init_85 : decode cX0_init 85 = .ok (.newarray .long, 2) := by decide +kernel
theorem dX0_init_87 : decode cX0_init 87 = .ok (.putfield 47, 3) := by decide +kernel
theorem dX0_init_90 : decode cX0_init 90 = .ok (.aload_n 0, 1) := by decide +kernel
theorem dX0_init_91 : decode cX0_init 91 = .ok (.sipush 255, 3) := by decide +kernel
theorem dX0_init_94 : decode cX0_init 94 = .ok (.newarray .long, 2) := by decide +kernel
theorem dX0_init_96 : decode cX0_init 96 = .ok (.putfield 51, 3) := by decide +kernel
theorem dX0_init_99 : decode cX0_init 99 = .ok (.aload_n 0, 1) := by decide +kernel
theorem dX0_init_100 : decode cX0_init 100 = .ok (.bipush 15, 2) := by decide +kernel
theorem dX0_init_102 : decode cX0_init 102 = .ok (.newarray .long, 2) := by decide +kernel
theorem dX0_init_104 : decode cX0_init 104 = .ok (.putfield 54, 3) := by decide +kernel
theorem dX0_init_107 : decode cX0_init 107 = .ok (.aload_n 0, 1) := by decide +kernel
theorem dX0_init_108 : decode cX0_init 108 = .ok (.bipush 15, 2) := by decide +kernel
theorem dX0_init_110 : decode cX0_init 110 = .ok (.newarray .long, 2) := by decide +kernel
theorem dX0_init_112 : decode cX0_init 112 = .ok (.putfield 57, 3) := by decide +kernel
theorem dX0_init_115 : decode cX0_init 115 = .ok (.return_, 1) := by decide +kernel
set_option maxRecDepth 20000 in
theorem ggX0_grant_X0_isUser : GoodIn wsX0_grant wsX0_isUser := goodIn_r _ [9] (by decide +kernel) (by decide +kernel)
set_option maxRecDepth 20000 in
theorem gX0_grant_X0_isUser : GoodIn wsX0_grant (va_wsS RX0 60 yX0_isUser wsX0_isUser) := goodIn_app (goodIn_of _ (by decide +kernel)) ggX0_grant_X0_isUser
set_option maxRecDepth 20000 in
theorem ggX0_grant_X0_isPermission : GoodIn wsX0_grant wsX0_isPermission := goodIn_r _ [12] (by decide +kernel) (by decide +kernel)
set_option maxRecDepth 20000 in
theorem gX0_grant_X0_isPermission : GoodIn wsX0_grant (va_wsS RX0 64 yX0_isPermission wsX0_isPermission) := goodIn_app (goodIn_of _ (by decide +kernel)) ggX0_grant_X0_isPermission
set_option maxRecDepth 20000 in
theorem ggX0_grant_X0_has : GoodIn wsX0_grant wsX0_has := goodIn_r _ [15] (by decide +kernel) (by decide +kernel)
set_option maxRecDepth 20000 in
theorem gX0_grant_X0_has : GoodIn wsX0_grant (va_wsS RX0 74 yX0_has wsX0_has) := goodIn_app (goodIn_of _ (by decide +kernel)) ggX0_grant_X0_has
set_option maxRecDepth 20000 in
theorem ggX0_grant_X0_grantIndex : GoodIn wsX0_grant wsX0_grantIndex := goodIn_r _ [18] (by decide +kernel) (by decide +kernel)
set_option maxRecDepth 20000 in
theorem gX0_grant_X0_grantIndex : GoodIn wsX0_grant (va_wsS RX0 78 yX0_grantIndex wsX0_grantIndex) := goodIn_app (goodIn_of _ (by decide +kernel)) ggX0_grant_X0_grantIndex
theorem dX0_grant_0 : decode cX0_grant 0 = .ok (.iload_n 1, 1) := by decide +kernel
theorem dX0_grant_1 : decode cX0_grant 1 = .ok (.invokestatic 60, 3) := by decide +kernel
theorem dX0_grant_4 : decode cX0_grant 4 = .ok (.ifCond .eq 10, 3) := by decide +kernel
theorem dX0_grant_7 : decode cX0_grant 7 = .ok (.iload_n 2, 1) := by decide +kernel
theorem dX0_grant_8 : decode cX0_grant 8 = .ok (.invokestatic 64, 3) := by decide +kernel
theorem dX0_grant_11 : decode cX0_grant 11 = .ok (.ifCond .ne 13, 3) := by decide +kernel
theorem dX0_grant_14 : decode cX0_grant 14 = .ok (.new 67, 3) := by decide +kernel
theorem dX0_grant_17 : decode cX0_grant 17 = .ok (.dup, 1) := by decide +kernel
theorem dX0_grant_18 : decode cX0_grant 18 = .ok (.ldc 69, 2) := by decide +kernel
theorem dX0_grant_20 : decode cX0_grant 20 = .ok (.invokespecial 71, 3) := by decide +kernel
theorem dX0_grant_23 : decode cX0_grant 23 = .ok (.athrow, 1) := by decide +kernel
theorem dX0_grant_24 : decode cX0_grant 24 = .ok (.aload_n 0, 1) := by decide +kernel
theorem dX0_grant_25 : decode cX0_grant 25 = .ok (.getfield 9, 3) := by decide +kernel
theorem dX0_grant_28 : decode cX0_grant 28 = .ok (.iload_n 1, 1) := by decide +kernel
theorem dX0_grant_29 : decode cX0_grant 29 = .ok (.iaload, 1) := by decide +kernel
theorem dX0_grant_30 : decode cX0_grant 30 = .ok (.iload_n 2, 1) := by decide +kernel
theorem dX0_grant_31 : decode cX0_grant 31 = .ok (.invokestatic 74, 3) := by decide +kernel
theorem dX0_grant_34 : decode cX0_grant 34 = .ok (.ifCond .eq 5, 3) := by decide +kernel
theorem dX0_grant_37 : decode cX0_grant 37 = .ok (.iconst 0, 1) := by decide +kernel
theorem dX0_grant_38 : decode cX0_grant 38 = .ok (.ireturn, 1) := by decide +kernel
theorem dX0_grant_39 : decode cX0_grant 39 = .ok (.aload_n 0, 1) := by decide +kernel
theorem dX0_grant_40 : decode cX0_grant 40 = .ok (.getfield 9, 3) := by decide +kernel
theorem dX0_grant_43 : decode cX0_grant 43 = .ok (.iload_n 1, 1) := by decide +kernel
theorem dX0_grant_44 : decode cX0_grant 44 = .ok (.dup2, 1) := by decide +kernel
theorem dX0_grant_45 : decode cX0_grant 45 = .ok (.iaload, 1) := by decide +kernel
theorem dX0_grant_46 : decode cX0_grant 46 = .ok (.iconst 1, 1) := by decide +kernel
theorem dX0_grant_47 : decode cX0_grant 47 = .ok (.iload_n 2, 1) := by decide +kernel
theorem dX0_grant_48 : decode cX0_grant 48 = .ok (.ishl, 1) := by decide +kernel
theorem dX0_grant_49 : decode cX0_grant 49 = .ok (.ior, 1) := by decide +kernel
theorem dX0_grant_50 : decode cX0_grant 50 = .ok (.iastore, 1) := by decide +kernel
theorem dX0_grant_51 : decode cX0_grant 51 = .ok (.aload_n 0, 1) := by decide +kernel
theorem dX0_grant_52 : decode cX0_grant 52 = .ok (.getfield 13, 3) := by decide +kernel
theorem dX0_grant_55 : decode cX0_grant 55 = .ok (.iload_n 1, 1) := by decide +kernel
theorem dX0_grant_56 : decode cX0_grant 56 = .ok (.iload_n 2, 1) := by decide +kernel
theorem dX0_grant_57 : decode cX0_grant 57 = .ok (.invokestatic 78, 3) := by decide +kernel
theorem dX0_grant_60 : decode cX0_grant 60 = .ok (.aload_n 0, 1) := by decide +kernel
theorem dX0_grant_61 : decode cX0_grant 61 = .ok (.getfield 32, 3) := by decide +kernel
theorem dX0_grant_64 : decode cX0_grant 64 = .ok (.iastore, 1) := by decide +kernel
theorem dX0_grant_65 : decode cX0_grant 65 = .ok (.iconst 1, 1) := by decide +kernel
theorem dX0_grant_66 : decode cX0_grant 66 = .ok (.ireturn, 1) := by decide +kernel
set_option maxRecDepth 20000 in
theorem ggX0_revoke_X0_isUser : GoodIn wsX0_revoke wsX0_isUser := goodIn_r _ [7] (by decide +kernel) (by decide +kernel)
set_option maxRecDepth 20000 in
theorem gX0_revoke_X0_isUser : GoodIn wsX0_revoke (va_wsS RX0 60 yX0_isUser wsX0_isUser) := goodIn_app (goodIn_of _ (by decide +kernel)) ggX0_revoke_X0_isUser
set_option maxRecDepth 20000 in
theorem ggX0_revoke_X0_isPermission : GoodIn wsX0_revoke wsX0_isPermission := goodIn_r _ [10] (by decide +kernel) (by decide +kernel)
set_option maxRecDepth 20000 in
theorem gX0_revoke_X0_isPermission : GoodIn wsX0_revoke (va_wsS RX0 64 yX0_isPermission wsX0_isPermission) := goodIn_app (goodIn_of _ (by decide +kernel)) ggX0_revoke_X0_isPermission
set_option maxRecDepth 20000 in
theorem ggX0_revoke_X0_has : GoodIn wsX0_revoke wsX0_has := goodIn_r _ [13] (by decide +kernel) (by decide +kernel)
set_option maxRecDepth 20000 in
theorem gX0_revoke_X0_has : GoodIn wsX0_revoke (va_wsS RX0 74 yX0_has wsX0_has) := goodIn_app (goodIn_of _ (by decide +kernel)) ggX0_revoke_X0_has
theorem dX0_revoke_0 : decode cX0_revoke 0 = .ok (.iload_n 1, 1) := by decide +kernel
theorem dX0_revoke_1 : decode cX0_revoke 1 = .ok (.invokestatic 60, 3) := by decide +kernel
theorem dX0_revoke_4 : decode cX0_revoke 4 = .ok (.ifCond .eq 10, 3) := by decide +kernel
theorem dX0_revoke_7 : decode cX0_revoke 7 = .ok (.iload_n 2, 1) := by decide +kernel
theorem dX0_revoke_8 : decode cX0_revoke 8 = .ok (.invokestatic 64, 3) := by decide +kernel
theorem dX0_revoke_11 : decode cX0_revoke 11 = .ok (.ifCond .ne 13, 3) := by decide +kernel
theorem dX0_revoke_14 : decode cX0_revoke 14 = .ok (.new 67, 3) := by decide +kernel
theorem dX0_revoke_17 : decode cX0_revoke 17 = .ok (.dup, 1) := by decide +kernel
theorem dX0_revoke_18 : decode cX0_revoke 18 = .ok (.ldc 69, 2) := by decide +kernel
theorem dX0_revoke_20 : decode cX0_revoke 20 = .ok (.invokespecial 71, 3) := by decide +kernel
theorem dX0_revoke_23 : decode cX0_revoke 23 = .ok (.athrow, 1) := by decide +kernel
theorem dX0_revoke_24 : decode cX0_revoke 24 = .ok (.aload_n 0, 1) := by decide +kernel
theorem dX0_revoke_25 : decode cX0_revoke 25 = .ok (.getfield 9, 3) := by decide +kernel
theorem dX0_revoke_28 : decode cX0_revoke 28 = .ok (.iload_n 1, 1) := by decide +kernel
theorem dX0_revoke_29 : decode cX0_revoke 29 = .ok (.iaload, 1) := by decide +kernel
theorem dX0_revoke_30 : decode cX0_revoke 30 = .ok (.iload_n 2, 1) := by decide +kernel
theorem dX0_revoke_31 : decode cX0_revoke 31 = .ok (.invokestatic 74, 3) := by decide +kernel
theorem dX0_revoke_34 : decode cX0_revoke 34 = .ok (.istore_n 3, 1) := by decide +kernel
theorem dX0_revoke_35 : decode cX0_revoke 35 = .ok (.aload_n 0, 1) := by decide +kernel
theorem dX0_revoke_36 : decode cX0_revoke 36 = .ok (.getfield 9, 3) := by decide +kernel
theorem dX0_revoke_39 : decode cX0_revoke 39 = .ok (.iload_n 1, 1) := by decide +kernel
theorem dX0_revoke_40 : decode cX0_revoke 40 = .ok (.dup2, 1) := by decide +kernel
theorem dX0_revoke_41 : decode cX0_revoke 41 = .ok (.iaload, 1) := by decide +kernel
theorem dX0_revoke_42 : decode cX0_revoke 42 = .ok (.iconst 1, 1) := by decide +kernel
theorem dX0_revoke_43 : decode cX0_revoke 43 = .ok (.iload_n 2, 1) := by decide +kernel
theorem dX0_revoke_44 : decode cX0_revoke 44 = .ok (.ishl, 1) := by decide +kernel
theorem dX0_revoke_45 : decode cX0_revoke 45 = .ok (.iconst (-1), 1) := by decide +kernel
theorem dX0_revoke_46 : decode cX0_revoke 46 = .ok (.ixor, 1) := by decide +kernel
theorem dX0_revoke_47 : decode cX0_revoke 47 = .ok (.iand, 1) := by decide +kernel
theorem dX0_revoke_48 : decode cX0_revoke 48 = .ok (.iastore, 1) := by decide +kernel
theorem dX0_revoke_49 : decode cX0_revoke 49 = .ok (.iload_n 3, 1) := by decide +kernel
theorem dX0_revoke_50 : decode cX0_revoke 50 = .ok (.ireturn, 1) := by decide +kernel
set_option maxRecDepth 20000 in
theorem ggX0_setGrants_X0_isUser : GoodIn wsX0_setGrants wsX0_isUser := goodIn_r _ [11] (by decide +kernel) (by decide +kernel)
set_option maxRecDepth 20000 in
theorem gX0_setGrants_X0_isUser : GoodIn wsX0_setGrants (va_wsS RX0 60 yX0_isUser wsX0_isUser) := goodIn_app (goodIn_of _ (by decide +kernel)) ggX0_setGrants_X0_isUser
set_option maxRecDepth 20000 in
theorem ggX0_setGrants_X0_isPermissionSet : GoodIn wsX0_setGrants wsX0_isPermissionSet := goodIn_r _ [14] (by decide +kernel) (by decide +kernel)
set_option maxRecDepth 20000 in
theorem gX0_setGrants_X0_isPermissionSet : GoodIn wsX0_setGrants (va_wsS RX0 84 yX0_isPermissionSet wsX0_isPermissionSet) := goodIn_app (goodIn_of _ (by decide +kernel)) ggX0_setGrants_X0_isPermissionSet
set_option maxRecDepth 20000 in
theorem ggX0_setGrants_X0_has : GoodIn wsX0_setGrants wsX0_has := goodIn_r _ [17] (by decide +kernel) (by decide +kernel)
set_option maxRecDepth 20000 in
theorem gX0_setGrants_X0_has : GoodIn wsX0_setGrants (va_wsS RX0 74 yX0_has wsX0_has) := goodIn_app (goodIn_of _ (by decide +kernel)) ggX0_setGrants_X0_has
set_option maxRecDepth 20000 in
theorem ggX0_setGrants_X0_grantIndex : GoodIn wsX0_setGrants wsX0_grantIndex := goodIn_r _ [20] (by decide +kernel) (by decide +kernel)
set_option maxRecDepth 20000 in
theorem gX0_setGrants_X0_grantIndex : GoodIn wsX0_setGrants (va_wsS RX0 78 yX0_grantIndex wsX0_grantIndex) := goodIn_app (goodIn_of _ (by decide +kernel)) ggX0_setGrants_X0_grantIndex
set_option maxRecDepth 20000 in
theorem ggX0_setGrants_J6_bitCount_0f7a4 : GoodIn wsX0_setGrants wsJ6_bitCount_0f7a4 := goodIn_r _ [24, 25, 26, 27] (by decide +kernel) (by decide +kernel)
set_option maxRecDepth 20000 in
theorem gX0_setGrants_J6_bitCount_0f7a4 : GoodIn wsX0_setGrants (va_wsS RX0 92 yJ6_bitCount_0f7a4 wsJ6_bitCount_0f7a4) := goodIn_app (goodIn_of _ (by decide +kernel)) ggX0_setGrants_J6_bitCount_0f7a4
theorem dX0_setGrants_0 : decode cX0_setGrants 0 = .ok (.iload_n 1, 1) := by decide +kernel
theorem dX0_setGrants_1 : decode cX0_setGrants 1 = .ok (.invokestatic 60, 3) := by decide +kernel
theorem dX0_setGrants_4 : decode cX0_setGrants 4 = .ok (.ifCond .ne 13, 3) := by decide +kernel
theorem dX0_setGrants_7 : decode cX0_setGrants 7 = .ok (.new 67, 3) := by decide +kernel
theorem dX0_setGrants_10 : decode cX0_setGrants 10 = .ok (.dup, 1) := by decide +kernel
theorem dX0_setGrants_11 : decode cX0_setGrants 11 = .ok (.ldc 82, 2) := by decide +kernel
theorem dX0_setGrants_13 : decode cX0_setGrants 13 = .ok (.invokespecial 71, 3) := by decide +kernel
theorem dX0_setGrants_16 : decode cX0_setGrants 16 = .ok (.athrow, 1) := by decide +kernel
theorem dX0_setGrants_17 : decode cX0_setGrants 17 = .ok (.iload_n 2, 1) := by decide +kernel
theorem dX0_setGrants_18 : decode cX0_setGrants 18 = .ok (.invokestatic 84, 3) := by decide +kernel
theorem dX0_setGrants_21 : decode cX0_setGrants 21 = .ok (.ifCond .ne 13, 3) := by decide +kernel
theorem dX0_setGrants_24 : decode cX0_setGrants 24 = .ok (.new 87, 3) := by decide +kernel
theorem dX0_setGrants_27 : decode cX0_setGrants 27 = .ok (.dup, 1) := by decide +kernel
theorem dX0_setGrants_28 : decode cX0_setGrants 28 = .ok (.ldc 89, 2) := by decide +kernel
theorem dX0_setGrants_30 : decode cX0_setGrants 30 = .ok (.invokespecial 91, 3) := by decide +kernel
theorem dX0_setGrants_33 : decode cX0_setGrants 33 = .ok (.athrow, 1) := by decide +kernel
theorem dX0_setGrants_34 : decode cX0_setGrants 34 = .ok (.aload_n 0, 1) := by decide +kernel
theorem dX0_setGrants_35 : decode cX0_setGrants 35 = .ok (.getfield 9, 3) := by decide +kernel
theorem dX0_setGrants_38 : decode cX0_setGrants 38 = .ok (.iload_n 1, 1) := by decide +kernel
theorem dX0_setGrants_39 : decode cX0_setGrants 39 = .ok (.iaload, 1) := by decide +kernel
theorem dX0_setGrants_40 : decode cX0_setGrants 40 = .ok (.istore_n 3, 1) := by decide +kernel
theorem dX0_setGrants_41 : decode cX0_setGrants 41 = .ok (.iconst 0, 1) := by decide +kernel
theorem dX0_setGrants_42 : decode cX0_setGrants 42 = .ok (.istore 4, 2) := by decide +kernel
theorem dX0_setGrants_44 : decode cX0_setGrants 44 = .ok (.iload 4, 2) := by decide +kernel
theorem dX0_setGrants_46 : decode cX0_setGrants 46 = .ok (.bipush 12, 2) := by decide +kernel
theorem dX0_setGrants_48 : decode cX0_setGrants 48 = .ok (.if_icmp .ge 37, 3) := by decide +kernel
theorem dX0_setGrants_51 : decode cX0_setGrants 51 = .ok (.iload_n 2, 1) := by decide +kernel
theorem dX0_setGrants_52 : decode cX0_setGrants 52 = .ok (.iload_n 3, 1) := by decide +kernel
theorem dX0_setGrants_53 : decode cX0_setGrants 53 = .ok (.iconst (-1), 1) := by decide +kernel
theorem dX0_setGrants_54 : decode cX0_setGrants 54 = .ok (.ixor, 1) := by decide +kernel
theorem dX0_setGrants_55 : decode cX0_setGrants 55 = .ok (.iand, 1) := by decide +kernel
theorem dX0_setGrants_56 : decode cX0_setGrants 56 = .ok (.iload 4, 2) := by decide +kernel
theorem dX0_setGrants_58 : decode cX0_setGrants 58 = .ok (.invokestatic 74, 3) := by decide +kernel
theorem dX0_setGrants_61 : decode cX0_setGrants 61 = .ok (.ifCond .eq 18, 3) := by decide +kernel
theorem dX0_setGrants_64 : decode cX0_setGrants 64 = .ok (.aload_n 0, 1) := by decide +kernel
theorem dX0_setGrants_65 : decode cX0_setGrants 65 = .ok (.getfield 13, 3) := by decide +kernel
theorem dX0_setGrants_68 : decode cX0_setGrants 68 = .ok (.iload_n 1, 1) := by decide +kernel
theorem dX0_setGrants_69 : decode cX0_setGrants 69 = .ok (.iload 4, 2) := by decide +kernel
theorem dX0_setGrants_71 : decode cX0_setGrants 71 = .ok (.invokestatic 78, 3) := by decide +kernel
theorem dX0_setGrants_74 : decode cX0_setGrants 74 = .ok (.aload_n 0, 1) := by decide +kernel
theorem dX0_setGrants_75 : decode cX0_setGrants 75 = .ok (.getfield 32, 3) := by decide +kernel
theorem dX0_setGrants_78 : decode cX0_setGrants 78 = .ok (.iastore, 1) := by decide +kernel
theorem dX0_setGrants_79 : decode cX0_setGrants 79 = .ok (.iinc 4 1, 3) := by decide +kernel
theorem dX0_setGrants_82 : decode cX0_setGrants 82 = .ok (.goto (-38), 3) := by decide +kernel
theorem dX0_setGrants_85 : decode cX0_setGrants 85 = .ok (.aload_n 0, 1) := by decide +kernel
theorem dX0_setGrants_86 : decode cX0_setGrants 86 = .ok (.getfield 9, 3) := by decide +kernel
theorem dX0_setGrants_89 : decode cX0_setGrants 89 = .ok (.iload_n 1, 1) := by decide +kernel
theorem dX0_setGrants_90 : decode cX0_setGrants 90 = .ok (.iload_n 2, 1) := by decide +kernel
theorem dX0_setGrants_91 : decode cX0_setGrants 91 = .ok (.iastore, 1) := by decide +kernel
theorem dX0_setGrants_92 : decode cX0_setGrants 92 = .ok (.iload_n 3, 1) := by decide +kernel
theorem dX0_setGrants_93 : decode cX0_setGrants 93 = .ok (.iload_n 2, 1) := by decide +kernel
theorem dX0_setGrants_94 : decode cX0_setGrants 94 = .ok (.ixor, 1) := by decide +kernel
theorem dX0_setGrants_95 : decode cX0_setGrants 95 = .ok (.invokestatic 92, 3) := by decide +kernel
theorem dX0_setGrants_98 : decode cX0_setGrants 98 = .ok (.ireturn, 1) := by decide +kernel
set_option maxRecDepth 20000 in
theorem ggX0_setConflict_X0_isPermission : GoodIn wsX0_setConflict wsX0_isPermission := goodIn_r _ [9] (by decide +kernel) (by decide +kernel)
set_option maxRecDepth 20000 in
theorem gX0_setConflict_X0_isPermission : GoodIn wsX0_setConflict (va_wsS RX0 64 yX0_isPermission wsX0_isPermission) := goodIn_app (goodIn_of _ (by decide +kernel)) ggX0_setConflict_X0_isPermission
set_option maxRecDepth 20000 in
theorem ggX0_setConflict_X0_has : GoodIn wsX0_setConflict wsX0_has := goodIn_r _ [12] (by decide +kernel) (by decide +kernel)
set_option maxRecDepth 20000 in
theorem gX0_setConflict_X0_has : GoodIn wsX0_setConflict (va_wsS RX0 74 yX0_has wsX0_has) := goodIn_app (goodIn_of _ (by decide +kernel)) ggX0_setConflict_X0_has
theorem dX0_setConflict_0 : decode cX0_setConflict 0 = .ok (.iload_n 1, 1) := by decide +kernel
theorem dX0_setConflict_1 : decode cX0_setConflict 1 = .ok (.invokestatic 64, 3) := by decide +kernel
theorem dX0_setConflict_4 : decode cX0_setConflict 4 = .ok (.ifCond .eq 10, 3) := by decide +kernel
theorem dX0_setConflict_7 : decode cX0_setConflict 7 = .ok (.iload_n 2, 1) := by decide +kernel
theorem dX0_setConflict_8 : decode cX0_setConflict 8 = .ok (.invokestatic 64, 3) := by decide +kernel
theorem dX0_setConflict_11 : decode cX0_setConflict 11 = .ok (.ifCond .ne 13, 3) := by decide +kernel
theorem dX0_setConflict_14 : decode cX0_setConflict 14 = .ok (.new 67, 3) := by decide +kernel
theorem dX0_setConflict_17 : decode cX0_setConflict 17 = .ok (.dup, 1) := by decide +kernel
theorem dX0_setConflict_18 : decode cX0_setConflict 18 = .ok (.ldc 98, 2) := by decide +kernel
theorem dX0_setConflict_20 : decode cX0_setConflict 20 = .ok (.invokespecial 71, 3) := by decide +kernel
theorem dX0_setConflict_23 : decode cX0_setConflict 23 = .ok (.athrow, 1) := by decide +kernel
theorem dX0_setConflict_24 : decode cX0_setConflict 24 = .ok (.iload_n 1, 1) := by decide +kernel
theorem dX0_setConflict_25 : decode cX0_setConflict 25 = .ok (.iload_n 2, 1) := by decide +kernel
theorem dX0_setConflict_26 : decode cX0_setConflict 26 = .ok (.if_icmp .ne 13, 3) := by decide +kernel
theorem dX0_setConflict_29 : decode cX0_setConflict 29 = .ok (.new 87, 3) := by decide +kernel
theorem dX0_setConflict_32 : decode cX0_setConflict 32 = .ok (.dup, 1) := by decide +kernel
theorem dX0_setConflict_33 : decode cX0_setConflict 33 = .ok (.ldc 100, 2) := by decide +kernel
theorem dX0_setConflict_35 : decode cX0_setConflict 35 = .ok (.invokespecial 91, 3) := by decide +kernel
theorem dX0_setConflict_38 : decode cX0_setConflict 38 = .ok (.athrow, 1) := by decide +kernel
theorem dX0_setConflict_39 : decode cX0_setConflict 39 = .ok (.aload_n 0, 1) := by decide +kernel
theorem dX0_setConflict_40 : decode cX0_setConflict 40 = .ok (.getfield 16, 3) := by decide +kernel
theorem dX0_setConflict_43 : decode cX0_setConflict 43 = .ok (.iload_n 1, 1) := by decide +kernel
theorem dX0_setConflict_44 : decode cX0_setConflict 44 = .ok (.iaload, 1) := by decide +kernel
theorem dX0_setConflict_45 : decode cX0_setConflict 45 = .ok (.iload_n 2, 1) := by decide +kernel
theorem dX0_setConflict_46 : decode cX0_setConflict 46 = .ok (.invokestatic 74, 3) := by decide +kernel
theorem dX0_setConflict_49 : decode cX0_setConflict 49 = .ok (.istore 4, 2) := by decide +kernel
theorem dX0_setConflict_51 : decode cX0_setConflict 51 = .ok (.iload_n 3, 1) := by decide +kernel
theorem dX0_setConflict_52 : decode cX0_setConflict 52 = .ok (.ifCond .eq 30, 3) := by decide +kernel
theorem dX0_setConflict_55 : decode cX0_setConflict 55 = .ok (.aload_n 0, 1) := by decide +kernel
theorem dX0_setConflict_56 : decode cX0_setConflict 56 = .ok (.getfield 16, 3) := by decide +kernel
theorem dX0_setConflict_59 : decode cX0_setConflict 59 = .ok (.iload_n 1, 1) := by decide +kernel
theorem dX0_setConflict_60 : decode cX0_setConflict 60 = .ok (.dup2, 1) := by decide +kernel
theorem dX0_setConflict_61 : decode cX0_setConflict 61 = .ok (.iaload, 1) := by decide +kernel
theorem dX0_setConflict_62 : decode cX0_setConflict 62 = .ok (.iconst 1, 1) := by decide +kernel
theorem dX0_setConflict_63 : decode cX0_setConflict 63 = .ok (.iload_n 2, 1) := by decide +kernel
theorem dX0_setConflict_64 : decode cX0_setConflict 64 = .ok (.ishl, 1) := by decide +kernel
theorem dX0_setConflict_65 : decode cX0_setConflict 65 = .ok (.ior, 1) := by decide +kernel
theorem dX0_setConflict_66 : decode cX0_setConflict 66 = .ok (.iastore, 1) := by decide +kernel
theorem dX0_setConflict_67 : decode cX0_setConflict 67 = .ok (.aload_n 0, 1) := by decide +kernel
theorem dX0_setConflict_68 : decode cX0_setConflict 68 = .ok (.getfield 16, 3) := by decide +kernel
theorem dX0_setConflict_71 : decode cX0_setConflict 71 = .ok (.iload_n 2, 1) := by decide +kernel
theorem dX0_setConflict_72 : decode cX0_setConflict 72 = .ok (.dup2, 1) := by decide +kernel
theorem dX0_setConflict_73 : decode cX0_setConflict 73 = .ok (.iaload, 1) := by decide +kernel
theorem dX0_setConflict_74 : decode cX0_setConflict 74 = .ok (.iconst 1, 1) := by decide +kernel
theorem dX0_setConflict_75 : decode cX0_setConflict 75 = .ok (.iload_n 1, 1) := by decide +kernel
theorem dX0_setConflict_76 : decode cX0_setConflict 76 = .ok (.ishl, 1) := by decide +kernel
theorem dX0_setConflict_77 : decode cX0_setConflict 77 = .ok (.ior, 1) := by decide +kernel
theorem dX0_setConflict_78 : decode cX0_setConflict 78 = .ok (.iastore, 1) := by decide +kernel
theorem dX0_setConflict_79 : decode cX0_setConflict 79 = .ok (.goto 31, 3) := by decide +kernel
theorem dX0_setConflict_82 : decode cX0_setConflict 82 = .ok (.aload_n 0, 1) := by decide +kernel
theorem dX0_setConflict_83 : decode cX0_setConflict 83 = .ok (.getfield 16, 3) := by decide +kernel
theorem dX0_setConflict_86 : decode cX0_setConflict 86 = .ok (.iload_n 1, 1) := by decide +kernel
theorem dX0_setConflict_87 : decode cX0_setConflict 87 = .ok (.dup2, 1) := by decide +kernel
theorem dX0_setConflict_88 : decode cX0_setConflict 88 = .ok (.iaload, 1) := by decide +kernel
theorem dX0_setConflict_89 : decode cX0_setConflict 89 = .ok (.iconst 1, 1) := by decide +kernel
theorem dX0_setConflict_90 : decode cX0_setConflict 90 = .ok (.iload_n 2, 1) := by decide +kernel
theorem dX0_setConflict_91 : decode cX0_setConflict 91 = .ok (.ishl, 1) := by decide +kernel
theorem dX0_setConflict_92 : decode cX0_setConflict 92 = .ok (.iconst (-1), 1) := by decide +kernel
theorem dX0_setConflict_93 : decode cX0_setConflict 93 = .ok (.ixor, 1) := by decide +kernel
theorem dX0_setConflict_94 : decode cX0_setConflict 94 = .ok (.iand, 1) := by decide +kernel
theorem dX0_setConflict_95 : decode cX0_setConflict 95 = .ok (.iastore, 1) := by decide +kernel
theorem dX0_setConflict_96 : decode cX0_setConflict 96 = .ok (.aload_n 0, 1) := by decide +kernel
theorem dX0_setConflict_97 : decode cX0_setConflict 97 = .ok (.getfield 16, 3) := by decide +kernel
theorem dX0_setConflict_100 : decode cX0_setConflict 100 = .ok (.iload_n 2, 1) := by decide +kernel
theorem dX0_setConflict_101 : decode cX0_setConflict 101 = .ok (.dup2, 1) := by decide +kernel
theorem dX0_setConflict_102 : decode cX0_setConflict 102 = .ok (.iaload, 1) := by decide +kernel
theorem dX0_setConflict_103 : decode cX0_setConflict 103 = .ok (.iconst 1, 1) := by decide +kernel
theorem dX0_setConflict_104 : decode cX0_setConflict 104 = .ok (.iload_n 1, 1) := by decide +kernel
theorem dX0_setConflict_105 : decode cX0_setConflict 105 = .ok (.ishl, 1) := by decide +kernel
theorem dX0_setConflict_106 : decode cX0_setConflict 106 = .ok (.iconst (-1), 1) := by decide +kernel
theorem dX0_setConflict_107 : decode cX0_setConflict 107 = .ok (.ixor, 1) := by decide +kernel
theorem dX0_setConflict_108 : decode cX0_setConflict 108 = .ok (.iand, 1) := by decide +kernel
theorem dX0_setConflict_109 : decode cX0_setConflict 109 = .ok (.iastore, 1) := by decide +kernel
theorem dX0_setConflict_110 : decode cX0_setConflict 110 = .ok (.iload 4, 2) := by decide +kernel
theorem dX0_setConflict_112 : decode cX0_setConflict 112 = .ok (.ireturn, 1) := by decide +kernel
set_option maxRecDepth 20000 in
theorem ggX0_setCosts_X0_isCost : GoodIn wsX0_setCosts wsX0_isCost := goodIn_r _ [8] (by decide +kernel) (by decide +kernel)
set_option maxRecDepth 20000 in
theorem gX0_setCosts_X0_isCost : GoodIn wsX0_setCosts (va_wsS RX0 102 yX0_isCost wsX0_isCost) := goodIn_app (goodIn_of _ (by decide +kernel)) ggX0_setCosts_X0_isCost
theorem dX0_setCosts_0 : decode cX0_setCosts 0 = .ok (.iload_n 1, 1) := by decide +kernel
theorem dX0_setCosts_1 : decode cX0_setCosts 1 = .ok (.invokestatic 102, 3) := by decide +kernel
theorem dX0_setCosts_4 : decode cX0_setCosts 4 = .ok (.ifCond .eq 10, 3) := by decide +kernel
theorem dX0_setCosts_7 : decode cX0_setCosts 7 = .ok (.iload_n 2, 1) := by decide +kernel
theorem dX0_setCosts_8 : decode cX0_setCosts 8 = .ok (.invokestatic 102, 3) := by decide +kernel
theorem dX0_setCosts_11 : decode cX0_setCosts 11 = .ok (.ifCond .ne 13, 3) := by decide +kernel
theorem dX0_setCosts_14 : decode cX0_setCosts 14 = .ok (.new 87, 3) := by decide +kernel
theorem dX0_setCosts_17 : decode cX0_setCosts 17 = .ok (.dup, 1) := by decide +kernel
theorem dX0_setCosts_18 : decode cX0_setCosts 18 = .ok (.ldc 105, 2) := by decide +kernel
theorem dX0_setCosts_20 : decode cX0_setCosts 20 = .ok (.invokespecial 91, 3) := by decide +kernel
theorem dX0_setCosts_23 : decode cX0_setCosts 23 = .ok (.athrow, 1) := by decide +kernel
theorem dX0_setCosts_24 : decode cX0_setCosts 24 = .ok (.aload_n 0, 1) := by decide +kernel
theorem dX0_setCosts_25 : decode cX0_setCosts 25 = .ok (.iload_n 1, 1) := by decide +kernel
theorem dX0_setCosts_26 : decode cX0_setCosts 26 = .ok (.putfield 19, 3) := by decide +kernel
theorem dX0_setCosts_29 : decode cX0_setCosts 29 = .ok (.aload_n 0, 1) := by decide +kernel
theorem dX0_setCosts_30 : decode cX0_setCosts 30 = .ok (.iload_n 2, 1) := by decide +kernel
theorem dX0_setCosts_31 : decode cX0_setCosts 31 = .ok (.putfield 23, 3) := by decide +kernel
theorem dX0_setCosts_34 : decode cX0_setCosts 34 = .ok (.return_, 1) := by decide +kernel
theorem dX0_setSupport_0 : decode cX0_setSupport 0 = .ok (.iload_n 1, 1) := by decide +kernel
theorem dX0_setSupport_1 : decode cX0_setSupport 1 = .ok (.iconst 1, 1) := by decide +kernel
theorem dX0_setSupport_2 : decode cX0_setSupport 2 = .ok (.if_icmp .lt 9, 3) := by decide +kernel
theorem dX0_setSupport_5 : decode cX0_setSupport 5 = .ok (.iload_n 1, 1) := by decide +kernel
theorem dX0_setSupport_6 : decode cX0_setSupport 6 = .ok (.bipush 8, 2) := by decide +kernel
theorem dX0_setSupport_8 : decode cX0_setSupport 8 = .ok (.if_icmp .le 13, 3) := by decide +kernel
theorem dX0_setSupport_11 : decode cX0_setSupport 11 = .ok (.new 87, 3) := by decide +kernel
theorem dX0_setSupport_14 : decode cX0_setSupport 14 = .ok (.dup, 1) := by decide +kernel
theorem dX0_setSupport_15 : decode cX0_setSupport 15 = .ok (.ldc 107, 2) := by decide +kernel
theorem dX0_setSupport_17 : decode cX0_setSupport 17 = .ok (.invokespecial 91, 3) := by decide +kernel
theorem dX0_setSupport_20 : decode cX0_setSupport 20 = .ok (.athrow, 1) := by decide +kernel
theorem dX0_setSupport_21 : decode cX0_setSupport 21 = .ok (.aload_n 0, 1) := by decide +kernel
theorem dX0_setSupport_22 : decode cX0_setSupport 22 = .ok (.getfield 26, 3) := by decide +kernel
theorem dX0_setSupport_25 : decode cX0_setSupport 25 = .ok (.istore_n 2, 1) := by decide +kernel
theorem dX0_setSupport_26 : decode cX0_setSupport 26 = .ok (.aload_n 0, 1) := by decide +kernel
theorem dX0_setSupport_27 : decode cX0_setSupport 27 = .ok (.iload_n 1, 1) := by decide +kernel
theorem dX0_setSupport_28 : decode cX0_setSupport 28 = .ok (.putfield 26, 3) := by decide +kernel
theorem dX0_setSupport_31 : decode cX0_setSupport 31 = .ok (.iload_n 2, 1) := by decide +kernel
theorem dX0_setSupport_32 : decode cX0_setSupport 32 = .ok (.ireturn, 1) := by decide +kernel
theorem dX0_setPeriod_0 : decode cX0_setPeriod 0 = .ok (.iload_n 1, 1) := by decide +kernel
theorem dX0_setPeriod_1 : decode cX0_setPeriod 1 = .ok (.iconst 1, 1) := by decide +kernel
theorem dX0_setPeriod_2 : decode cX0_setPeriod 2 = .ok (.if_icmp .lt 9, 3) := by decide +kernel
theorem dX0_setPeriod_5 : decode cX0_setPeriod 5 = .ok (.iload_n 1, 1) := by decide +kernel
theorem dX0_setPeriod_6 : decode cX0_setPeriod 6 = .ok (.bipush 8, 2) := by decide +kernel
theorem dX0_setPeriod_8 : decode cX0_setPeriod 8 = .ok (.if_icmp .le 13, 3) := by decide +kernel
theorem dX0_setPeriod_11 : decode cX0_setPeriod 11 = .ok (.new 87, 3) := by decide +kernel
theorem dX0_setPeriod_14 : decode cX0_setPeriod 14 = .ok (.dup, 1) := by decide +kernel
theorem dX0_setPeriod_15 : decode cX0_setPeriod 15 = .ok (.ldc 109, 2) := by decide +kernel
theorem dX0_setPeriod_17 : decode cX0_setPeriod 17 = .ok (.invokespecial 91, 3) := by decide +kernel
theorem dX0_setPeriod_20 : decode cX0_setPeriod 20 = .ok (.athrow, 1) := by decide +kernel
theorem dX0_setPeriod_21 : decode cX0_setPeriod 21 = .ok (.aload_n 0, 1) := by decide +kernel
theorem dX0_setPeriod_22 : decode cX0_setPeriod 22 = .ok (.getfield 29, 3) := by decide +kernel
theorem dX0_setPeriod_25 : decode cX0_setPeriod 25 = .ok (.istore_n 2, 1) := by decide +kernel
theorem dX0_setPeriod_26 : decode cX0_setPeriod 26 = .ok (.aload_n 0, 1) := by decide +kernel
theorem dX0_setPeriod_27 : decode cX0_setPeriod 27 = .ok (.iload_n 1, 1) := by decide +kernel
theorem dX0_setPeriod_28 : decode cX0_setPeriod 28 = .ok (.putfield 29, 3) := by decide +kernel
theorem dX0_setPeriod_31 : decode cX0_setPeriod 31 = .ok (.iload_n 2, 1) := by decide +kernel
theorem dX0_setPeriod_32 : decode cX0_setPeriod 32 = .ok (.ireturn, 1) := by decide +kernel
set_option maxRecDepth 20000 in
theorem ggX0_review_X0_isUser : GoodIn wsX0_review wsX0_isUser := goodIn_r _ [11] (by decide +kernel) (by decide +kernel)
set_option maxRecDepth 20000 in
theorem gX0_review_X0_isUser : GoodIn wsX0_review (va_wsS RX0 60 yX0_isUser wsX0_isUser) := goodIn_app (goodIn_of _ (by decide +kernel)) ggX0_review_X0_isUser
set_option maxRecDepth 20000 in
theorem ggX0_review_X0_isPermission : GoodIn wsX0_review wsX0_isPermission := goodIn_r _ [14] (by decide +kernel) (by decide +kernel)
set_option maxRecDepth 20000 in
theorem gX0_review_X0_isPermission : GoodIn wsX0_review (va_wsS RX0 64 yX0_isPermission wsX0_isPermission) := goodIn_app (goodIn_of _ (by decide +kernel)) ggX0_review_X0_isPermission
set_option maxRecDepth 20000 in
theorem ggX0_review_X0_has : GoodIn wsX0_review wsX0_has := goodIn_r _ [17] (by decide +kernel) (by decide +kernel)
set_option maxRecDepth 20000 in
theorem gX0_review_X0_has : GoodIn wsX0_review (va_wsS RX0 74 yX0_has wsX0_has) := goodIn_app (goodIn_of _ (by decide +kernel)) ggX0_review_X0_has
set_option maxRecDepth 20000 in
theorem ggX0_review_X0_grantIndex : GoodIn wsX0_review wsX0_grantIndex := goodIn_r _ [20] (by decide +kernel) (by decide +kernel)
set_option maxRecDepth 20000 in
theorem gX0_review_X0_grantIndex : GoodIn wsX0_review (va_wsS RX0 78 yX0_grantIndex wsX0_grantIndex) := goodIn_app (goodIn_of _ (by decide +kernel)) ggX0_review_X0_grantIndex
theorem dX0_review_0 : decode cX0_review 0 = .ok (.iload_n 1, 1) := by decide +kernel
theorem dX0_review_1 : decode cX0_review 1 = .ok (.invokestatic 60, 3) := by decide +kernel
theorem dX0_review_4 : decode cX0_review 4 = .ok (.ifCond .eq 10, 3) := by decide +kernel
theorem dX0_review_7 : decode cX0_review 7 = .ok (.iload_n 2, 1) := by decide +kernel
theorem dX0_review_8 : decode cX0_review 8 = .ok (.invokestatic 64, 3) := by decide +kernel
theorem dX0_review_11 : decode cX0_review 11 = .ok (.ifCond .ne 13, 3) := by decide +kernel
theorem dX0_review_14 : decode cX0_review 14 = .ok (.new 67, 3) := by decide +kernel
theorem dX0_review_17 : decode cX0_review 17 = .ok (.dup, 1) := by decide +kernel
theorem dX0_review_18 : decode cX0_review 18 = .ok (.ldc 69, 2) := by decide +kernel
theorem dX0_review_20 : decode cX0_review 20 = .ok (.invokespecial 71, 3) := by decide +kernel
theorem dX0_review_23 : decode cX0_review 23 = .ok (.athrow, 1) := by decide +kernel
theorem dX0_review_24 : decode cX0_review 24 = .ok (.aload_n 0, 1) := by decide +kernel
theorem dX0_review_25 : decode cX0_review 25 = .ok (.getfield 9, 3) := by decide +kernel
theorem dX0_review_28 : decode cX0_review 28 = .ok (.iload_n 1, 1) := by decide +kernel
theorem dX0_review_29 : decode cX0_review 29 = .ok (.iaload, 1) := by decide +kernel
theorem dX0_review_30 : decode cX0_review 30 = .ok (.iload_n 2, 1) := by decide +kernel
theorem dX0_review_31 : decode cX0_review 31 = .ok (.invokestatic 74, 3) := by decide +kernel
theorem dX0_review_34 : decode cX0_review 34 = .ok (.ifCond .ne 13, 3) := by decide +kernel
theorem dX0_review_37 : decode cX0_review 37 = .ok (.new 111, 3) := by decide +kernel
theorem dX0_review_40 : decode cX0_review 40 = .ok (.dup, 1) := by decide +kernel
theorem dX0_review_41 : decode cX0_review 41 = .ok (.ldc 113, 2) := by decide +kernel
theorem dX0_review_43 : decode cX0_review 43 = .ok (.invokespecial 115, 3) := by decide +kernel
theorem dX0_review_46 : decode cX0_review 46 = .ok (.athrow, 1) := by decide +kernel
theorem dX0_review_47 : decode cX0_review 47 = .ok (.iload_n 1, 1) := by decide +kernel
theorem dX0_review_48 : decode cX0_review 48 = .ok (.iload_n 2, 1) := by decide +kernel
theorem dX0_review_49 : decode cX0_review 49 = .ok (.invokestatic 78, 3) := by decide +kernel
theorem dX0_review_52 : decode cX0_review 52 = .ok (.istore_n 3, 1) := by decide +kernel
theorem dX0_review_53 : decode cX0_review 53 = .ok (.aload_n 0, 1) := by decide +kernel
theorem dX0_review_54 : decode cX0_review 54 = .ok (.getfield 32, 3) := by decide +kernel
theorem dX0_review_57 : decode cX0_review 57 = .ok (.aload_n 0, 1) := by decide +kernel
theorem dX0_review_58 : decode cX0_review 58 = .ok (.getfield 13, 3) := by decide +kernel
theorem dX0_review_61 : decode cX0_review 61 = .ok (.iload_n 3, 1) := by decide +kernel
theorem dX0_review_62 : decode cX0_review 62 = .ok (.iaload, 1) := by decide +kernel
theorem dX0_review_63 : decode cX0_review 63 = .ok (.isub, 1) := by decide +kernel
theorem dX0_review_64 : decode cX0_review 64 = .ok (.istore 4, 2) := by decide +kernel
theorem dX0_review_66 : decode cX0_review 66 = .ok (.aload_n 0, 1) := by decide +kernel
theorem dX0_review_67 : decode cX0_review 67 = .ok (.getfield 13, 3) := by decide +kernel
theorem dX0_review_70 : decode cX0_review 70 = .ok (.iload_n 3, 1) := by decide +kernel
theorem dX0_review_71 : decode cX0_review 71 = .ok (.aload_n 0, 1) := by decide +kernel
theorem dX0_review_72 : decode cX0_review 72 = .ok (.getfield 32, 3) := by decide +kernel
theorem dX0_review_75 : decode cX0_review 75 = .ok (.iastore, 1) := by decide +kernel
theorem dX0_review_76 : decode cX0_review 76 = .ok (.iload 4, 2) := by decide +kernel
theorem dX0_review_78 : decode cX0_review 78 = .ok (.ireturn, 1) := by decide +kernel
set_option maxRecDepth 20000 in
theorem ggX0_nextQuarter_X0_lapsingIn : GoodIn wsX0_nextQuarter wsX0_lapsingIn := goodIn_r _ [9, 10, 4, 11, 12, 13, 8, 14, 15, 16, 17, 25, 26, 27, 28, 29, 30, 31, 32, 33, 34, 35, 36, 37, 38, 39, 40] (by decide +kernel) (by decide +kernel)
set_option maxRecDepth 20000 in
theorem gX0_nextQuarter_X0_lapsingIn : GoodIn wsX0_nextQuarter (wsV RX0 118 RX0 yX0_lapsingIn wsX0_lapsingIn) := goodIn_app (goodIn_of _ (by decide +kernel)) ggX0_nextQuarter_X0_lapsingIn
set_option maxRecDepth 20000 in
theorem ggX0_nextQuarter_J6_bitCount_0f7a4 : GoodIn wsX0_nextQuarter wsJ6_bitCount_0f7a4 := goodIn_r _ [21, 22, 23, 24] (by decide +kernel) (by decide +kernel)
set_option maxRecDepth 20000 in
theorem gX0_nextQuarter_J6_bitCount_0f7a4 : GoodIn wsX0_nextQuarter (va_wsS RX0 92 yJ6_bitCount_0f7a4 wsJ6_bitCount_0f7a4) := goodIn_app (goodIn_of _ (by decide +kernel)) ggX0_nextQuarter_J6_bitCount_0f7a4
theorem dX0_nextQuarter_0 : decode cX0_nextQuarter 0 = .ok (.aload_n 0, 1) := by decide +kernel
theorem dX0_nextQuarter_1 : decode cX0_nextQuarter 1 = .ok (.getfield 32, 3) := by decide +kernel
theorem dX0_nextQuarter_4 : decode cX0_nextQuarter 4 = .ok (.bipush 100, 2) := by decide +kernel
theorem dX0_nextQuarter_6 : decode cX0_nextQuarter 6 = .ok (.if_icmp .lt 13, 3) := by decide +kernel
theorem dX0_nextQuarter_9 : decode cX0_nextQuarter 9 = .ok (.new 111, 3) := by decide +kernel
theorem dX0_nextQuarter_12 : decode cX0_nextQuarter 12 = .ok (.dup, 1) := by decide +kernel
theorem dX0_nextQuarter_13 : decode cX0_nextQuarter 13 = .ok (.ldc 116, 2) := by decide +kernel
theorem dX0_nextQuarter_15 : decode cX0_nextQuarter 15 = .ok (.invokespecial 115, 3) := by decide +kernel
theorem dX0_nextQuarter_18 : decode cX0_nextQuarter 18 = .ok (.athrow, 1) := by decide +kernel
theorem dX0_nextQuarter_19 : decode cX0_nextQuarter 19 = .ok (.aload_n 0, 1) := by decide +kernel
theorem dX0_nextQuarter_20 : decode cX0_nextQuarter 20 = .ok (.dup, 1) := by decide +kernel
theorem dX0_nextQuarter_21 : decode cX0_nextQuarter 21 = .ok (.getfield 32, 3) := by decide +kernel
theorem dX0_nextQuarter_24 : decode cX0_nextQuarter 24 = .ok (.iconst 1, 1) := by decide +kernel
theorem dX0_nextQuarter_25 : decode cX0_nextQuarter 25 = .ok (.iadd, 1) := by decide +kernel
theorem dX0_nextQuarter_26 : decode cX0_nextQuarter 26 = .ok (.putfield 32, 3) := by decide +kernel
theorem dX0_nextQuarter_29 : decode cX0_nextQuarter 29 = .ok (.iconst 0, 1) := by decide +kernel
theorem dX0_nextQuarter_30 : decode cX0_nextQuarter 30 = .ok (.istore_n 1, 1) := by decide +kernel
theorem dX0_nextQuarter_31 : decode cX0_nextQuarter 31 = .ok (.iconst 0, 1) := by decide +kernel
theorem dX0_nextQuarter_32 : decode cX0_nextQuarter 32 = .ok (.istore_n 2, 1) := by decide +kernel
theorem dX0_nextQuarter_33 : decode cX0_nextQuarter 33 = .ok (.iload_n 2, 1) := by decide +kernel
theorem dX0_nextQuarter_34 : decode cX0_nextQuarter 34 = .ok (.bipush 8, 2) := by decide +kernel
theorem dX0_nextQuarter_36 : decode cX0_nextQuarter 36 = .ok (.if_icmp .ge 38, 3) := by decide +kernel
theorem dX0_nextQuarter_39 : decode cX0_nextQuarter 39 = .ok (.aload_n 0, 1) := by decide +kernel
theorem dX0_nextQuarter_40 : decode cX0_nextQuarter 40 = .ok (.aload_n 0, 1) := by decide +kernel
theorem dX0_nextQuarter_41 : decode cX0_nextQuarter 41 = .ok (.getfield 32, 3) := by decide +kernel
theorem dX0_nextQuarter_44 : decode cX0_nextQuarter 44 = .ok (.iload_n 2, 1) := by decide +kernel
theorem dX0_nextQuarter_45 : decode cX0_nextQuarter 45 = .ok (.invokevirtual 118, 3) := by decide +kernel
theorem dX0_nextQuarter_48 : decode cX0_nextQuarter 48 = .ok (.istore_n 3, 1) := by decide +kernel
theorem dX0_nextQuarter_49 : decode cX0_nextQuarter 49 = .ok (.aload_n 0, 1) := by decide +kernel
theorem dX0_nextQuarter_50 : decode cX0_nextQuarter 50 = .ok (.getfield 9, 3) := by decide +kernel
theorem dX0_nextQuarter_53 : decode cX0_nextQuarter 53 = .ok (.iload_n 2, 1) := by decide +kernel
theorem dX0_nextQuarter_54 : decode cX0_nextQuarter 54 = .ok (.dup2, 1) := by decide +kernel
theorem dX0_nextQuarter_55 : decode cX0_nextQuarter 55 = .ok (.iaload, 1) := by decide +kernel
theorem dX0_nextQuarter_56 : decode cX0_nextQuarter 56 = .ok (.iload_n 3, 1) := by decide +kernel
theorem dX0_nextQuarter_57 : decode cX0_nextQuarter 57 = .ok (.iconst (-1), 1) := by decide +kernel
theorem dX0_nextQuarter_58 : decode cX0_nextQuarter 58 = .ok (.ixor, 1) := by decide +kernel
theorem dX0_nextQuarter_59 : decode cX0_nextQuarter 59 = .ok (.iand, 1) := by decide +kernel
theorem dX0_nextQuarter_60 : decode cX0_nextQuarter 60 = .ok (.iastore, 1) := by decide +kernel
theorem dX0_nextQuarter_61 : decode cX0_nextQuarter 61 = .ok (.iload_n 1, 1) := by decide +kernel
theorem dX0_nextQuarter_62 : decode cX0_nextQuarter 62 = .ok (.iload_n 3, 1) := by decide +kernel
theorem dX0_nextQuarter_63 : decode cX0_nextQuarter 63 = .ok (.invokestatic 92, 3) := by decide +kernel
theorem dX0_nextQuarter_66 : decode cX0_nextQuarter 66 = .ok (.iadd, 1) := by decide +kernel
theorem dX0_nextQuarter_67 : decode cX0_nextQuarter 67 = .ok (.istore_n 1, 1) := by decide +kernel
theorem dX0_nextQuarter_68 : decode cX0_nextQuarter 68 = .ok (.iinc 2 1, 3) := by decide +kernel
theorem dX0_nextQuarter_71 : decode cX0_nextQuarter 71 = .ok (.goto (-38), 3) := by decide +kernel
theorem dX0_nextQuarter_74 : decode cX0_nextQuarter 74 = .ok (.iload_n 1, 1) := by decide +kernel
theorem dX0_nextQuarter_75 : decode cX0_nextQuarter 75 = .ok (.ireturn, 1) := by decide +kernel
set_option maxRecDepth 20000 in
theorem ggX0_mineGreedily_X0_findCandidates : GoodIn wsX0_mineGreedily wsX0_findCandidates := goodIn_r _ [14, 4, 15, 6, 16, 17, 18, 13, 19, 20, 21, 22, 23, 24, 25, 26, 27, 28, 29, 30, 31, 32, 33, 34, 35, 36, 37, 38, 39, 40, 41, 42, 43, 44, 45, 46, 47, 48, 49, 50, 7, 9, 51, 52, 53, 54, 55, 56, 57, 58, 59, 60, 2, 3, 78, 79, 80, 81, 82, 83, 84, 85, 86, 87, 88, 89, 90, 91, 92, 93] (by decide +kernel) (by decide +kernel)
set_option maxRecDepth 20000 in
theorem gX0_mineGreedily_X0_findCandidates : GoodIn wsX0_mineGreedily (wsV RX0 121 RX0 yX0_findCandidates wsX0_findCandidates) := goodIn_app (goodIn_of _ (by decide +kernel)) ggX0_mineGreedily_X0_findCandidates
set_option maxRecDepth 20000 in
theorem ggX0_mineGreedily_X0_mostSavingCandidate : GoodIn wsX0_mineGreedily wsX0_mostSavingCandidate := goodIn_r _ [64, 4, 7, 9, 65, 66, 67, 68, 69, 70, 71, 72, 73, 78, 79, 80, 81, 82, 83, 84, 85, 86, 87, 88, 89, 90, 91, 92, 93] (by decide +kernel) (by decide +kernel)
set_option maxRecDepth 20000 in
theorem gX0_mineGreedily_X0_mostSavingCandidate : GoodIn wsX0_mineGreedily (wsV RX0 124 RX0 yX0_mostSavingCandidate wsX0_mostSavingCandidate) := goodIn_app (goodIn_of _ (by decide +kernel)) ggX0_mineGreedily_X0_mostSavingCandidate
set_option maxRecDepth 20000 in
theorem ggX0_mineGreedily_X0_insertInOrder : GoodIn wsX0_mineGreedily wsX0_insertInOrder := goodIn_r _ [46] (by decide +kernel) (by decide +kernel)
set_option maxRecDepth 20000 in
theorem gX0_mineGreedily_X0_insertInOrder : GoodIn wsX0_mineGreedily (va_wsS RX0 128 yX0_insertInOrder wsX0_insertInOrder) := goodIn_app (goodIn_of _ (by decide +kernel)) ggX0_mineGreedily_X0_insertInOrder
set_option maxRecDepth 20000 in
theorem ggX0_mineGreedily_X0_costWith : GoodIn wsX0_mineGreedily wsX0_costWith := goodIn_r _ [77, 66, 65, 67, 68, 69, 70, 71, 72, 73, 78, 79, 80, 81, 82, 83, 84, 85, 86, 87, 88, 89, 90, 91, 92, 93] (by decide +kernel) (by decide +kernel)
set_option maxRecDepth 20000 in
theorem gX0_mineGreedily_X0_costWith : GoodIn wsX0_mineGreedily (wsV RX0 134 RX0 yX0_costWith wsX0_costWith) := goodIn_app (goodIn_of _ (by decide +kernel)) ggX0_mineGreedily_X0_costWith
theorem dX0_mineGreedily_0 : decode cX0_mineGreedily 0 = .ok (.aload_n 0, 1) := by decide +kernel
theorem dX0_mineGreedily_1 : decode cX0_mineGreedily 1 = .ok (.invokevirtual 121, 3) := by decide +kernel
theorem dX0_mineGreedily_4 : decode cX0_mineGreedily 4 = .ok (.aload_n 0, 1) := by decide +kernel
theorem dX0_mineGreedily_5 : decode cX0_mineGreedily 5 = .ok (.iconst 0, 1) := by decide +kernel
theorem dX0_mineGreedily_6 : decode cX0_mineGreedily 6 = .ok (.putfield 38, 3) := by decide +kernel
theorem dX0_mineGreedily_9 : decode cX0_mineGreedily 9 = .ok (.aload_n 0, 1) := by decide +kernel
theorem dX0_mineGreedily_10 : decode cX0_mineGreedily 10 = .ok (.getfield 54, 3) := by decide +kernel
theorem dX0_mineGreedily_13 : decode cX0_mineGreedily 13 = .ok (.bipush 14, 2) := by decide +kernel
theorem dX0_mineGreedily_15 : decode cX0_mineGreedily 15 = .ok (.laload, 1) := by decide +kernel
theorem dX0_mineGreedily_16 : decode cX0_mineGreedily 16 = .ok (.lstore_n 1, 1) := by decide +kernel
theorem dX0_mineGreedily_17 : decode cX0_mineGreedily 17 = .ok (.aload_n 0, 1) := by decide +kernel
theorem dX0_mineGreedily_18 : decode cX0_mineGreedily 18 = .ok (.getfield 57, 3) := by decide +kernel
theorem dX0_mineGreedily_21 : decode cX0_mineGreedily 21 = .ok (.bipush 14, 2) := by decide +kernel
theorem dX0_mineGreedily_23 : decode cX0_mineGreedily 23 = .ok (.laload, 1) := by decide +kernel
theorem dX0_mineGreedily_24 : decode cX0_mineGreedily 24 = .ok (.lstore_n 3, 1) := by decide +kernel
theorem dX0_mineGreedily_25 : decode cX0_mineGreedily 25 = .ok (.iconst 0, 1) := by decide +kernel
theorem dX0_mineGreedily_26 : decode cX0_mineGreedily 26 = .ok (.istore 5, 2) := by decide +kernel
theorem dX0_mineGreedily_28 : decode cX0_mineGreedily 28 = .ok (.iload 5, 2) := by decide +kernel
theorem dX0_mineGreedily_30 : decode cX0_mineGreedily 30 = .ok (.aload_n 0, 1) := by decide +kernel
theorem dX0_mineGreedily_31 : decode cX0_mineGreedily 31 = .ok (.getfield 44, 3) := by decide +kernel
theorem dX0_mineGreedily_34 : decode cX0_mineGreedily 34 = .ok (.if_icmp .ge 84, 3) := by decide +kernel
theorem dX0_mineGreedily_37 : decode cX0_mineGreedily 37 = .ok (.aload_n 0, 1) := by decide +kernel
theorem dX0_mineGreedily_38 : decode cX0_mineGreedily 38 = .ok (.lload_n 1, 1) := by decide +kernel
theorem dX0_mineGreedily_39 : decode cX0_mineGreedily 39 = .ok (.lload_n 3, 1) := by decide +kernel
theorem dX0_mineGreedily_40 : decode cX0_mineGreedily 40 = .ok (.invokevirtual 124, 3) := by decide +kernel
theorem dX0_mineGreedily_43 : decode cX0_mineGreedily 43 = .ok (.istore 6, 2) := by decide +kernel
theorem dX0_mineGreedily_45 : decode cX0_mineGreedily 45 = .ok (.iload 6, 2) := by decide +kernel
theorem dX0_mineGreedily_47 : decode cX0_mineGreedily 47 = .ok (.ifCond .lt 71, 3) := by decide +kernel
theorem dX0_mineGreedily_50 : decode cX0_mineGreedily 50 = .ok (.iload 6, 2) := by decide +kernel
theorem dX0_mineGreedily_52 : decode cX0_mineGreedily 52 = .ok (.aload_n 0, 1) := by decide +kernel
theorem dX0_mineGreedily_53 : decode cX0_mineGreedily 53 = .ok (.getfield 44, 3) := by decide +kernel
theorem dX0_mineGreedily_56 : decode cX0_mineGreedily 56 = .ok (.if_icmp .lt 6, 3) := by decide +kernel
theorem dX0_mineGreedily_59 : decode cX0_mineGreedily 59 = .ok (.goto 59, 3) := by decide +kernel
theorem dX0_mineGreedily_62 : decode cX0_mineGreedily 62 = .ok (.aload_n 0, 1) := by decide +kernel
theorem dX0_mineGreedily_63 : decode cX0_mineGreedily 63 = .ok (.aload_n 0, 1) := by decide +kernel
theorem dX0_mineGreedily_64 : decode cX0_mineGreedily 64 = .ok (.getfield 35, 3) := by decide +kernel
theorem dX0_mineGreedily_67 : decode cX0_mineGreedily 67 = .ok (.aload_n 0, 1) := by decide +kernel
theorem dX0_mineGreedily_68 : decode cX0_mineGreedily 68 = .ok (.getfield 38, 3) := by decide +kernel
theorem dX0_mineGreedily_71 : decode cX0_mineGreedily 71 = .ok (.aload_n 0, 1) := by decide +kernel
theorem dX0_mineGreedily_72 : decode cX0_mineGreedily 72 = .ok (.getfield 41, 3) := by decide +kernel
theorem dX0_mineGreedily_75 : decode cX0_mineGreedily 75 = .ok (.iload 6, 2) := by decide +kernel
theorem dX0_mineGreedily_77 : decode cX0_mineGreedily 77 = .ok (.iaload, 1) := by decide +kernel
theorem dX0_mineGreedily_78 : decode cX0_mineGreedily 78 = .ok (.invokestatic 128, 3) := by decide +kernel
theorem dX0_mineGreedily_81 : decode cX0_mineGreedily 81 = .ok (.putfield 38, 3) := by decide +kernel
theorem dX0_mineGreedily_84 : decode cX0_mineGreedily 84 = .ok (.lload_n 1, 1) := by decide +kernel
theorem dX0_mineGreedily_85 : decode cX0_mineGreedily 85 = .ok (.aload_n 0, 1) := by decide +kernel
theorem dX0_mineGreedily_86 : decode cX0_mineGreedily 86 = .ok (.getfield 47, 3) := by decide +kernel
theorem dX0_mineGreedily_89 : decode cX0_mineGreedily 89 = .ok (.iload 6, 2) := by decide +kernel
theorem dX0_mineGreedily_91 : decode cX0_mineGreedily 91 = .ok (.laload, 1) := by decide +kernel
theorem dX0_mineGreedily_92 : decode cX0_mineGreedily 92 = .ok (.ldc2_w 132, 3) := by decide +kernel
theorem dX0_mineGreedily_95 : decode cX0_mineGreedily 95 = .ok (.lxor, 1) := by decide +kernel
theorem dX0_mineGreedily_96 : decode cX0_mineGreedily 96 = .ok (.land, 1) := by decide +kernel
theorem dX0_mineGreedily_97 : decode cX0_mineGreedily 97 = .ok (.lstore_n 1, 1) := by decide +kernel
theorem dX0_mineGreedily_98 : decode cX0_mineGreedily 98 = .ok (.lload_n 3, 1) := by decide +kernel
theorem dX0_mineGreedily_99 : decode cX0_mineGreedily 99 = .ok (.aload_n 0, 1) := by decide +kernel
theorem dX0_mineGreedily_100 : decode cX0_mineGreedily 100 = .ok (.getfield 51, 3) := by decide +kernel
theorem dX0_mineGreedily_103 : decode cX0_mineGreedily 103 = .ok (.iload 6, 2) := by decide +kernel
theorem dX0_mineGreedily_105 : decode cX0_mineGreedily 105 = .ok (.laload, 1) := by decide +kernel
theorem dX0_mineGreedily_106 : decode cX0_mineGreedily 106 = .ok (.ldc2_w 132, 3) := by decide +kernel
theorem dX0_mineGreedily_109 : decode cX0_mineGreedily 109 = .ok (.lxor, 1) := by decide +kernel
theorem dX0_mineGreedily_110 : decode cX0_mineGreedily 110 = .ok (.land, 1) := by decide +kernel
theorem dX0_mineGreedily_111 : decode cX0_mineGreedily 111 = .ok (.lstore_n 3, 1) := by decide +kernel
theorem dX0_mineGreedily_112 : decode cX0_mineGreedily 112 = .ok (.iinc 5 1, 3) := by decide +kernel
theorem dX0_mineGreedily_115 : decode cX0_mineGreedily 115 = .ok (.goto (-87), 3) := by decide +kernel
theorem dX0_mineGreedily_118 : decode cX0_mineGreedily 118 = .ok (.aload_n 0, 1) := by decide +kernel
theorem dX0_mineGreedily_119 : decode cX0_mineGreedily 119 = .ok (.aload_n 0, 1) := by decide +kernel
theorem dX0_mineGreedily_120 : decode cX0_mineGreedily 120 = .ok (.getfield 38, 3) := by decide +kernel
theorem dX0_mineGreedily_123 : decode cX0_mineGreedily 123 = .ok (.lload_n 1, 1) := by decide +kernel
theorem dX0_mineGreedily_124 : decode cX0_mineGreedily 124 = .ok (.lload_n 3, 1) := by decide +kernel
theorem dX0_mineGreedily_125 : decode cX0_mineGreedily 125 = .ok (.invokevirtual 134, 3) := by decide +kernel
theorem dX0_mineGreedily_128 : decode cX0_mineGreedily 128 = .ok (.ireturn, 1) := by decide +kernel
set_option maxRecDepth 20000 in
theorem ggX0_mineBest_X0_findCandidates : GoodIn wsX0_mineBest wsX0_findCandidates := goodIn_r _ [11, 3, 12, 6, 13, 14, 15, 10, 16, 17, 18, 19, 20, 21, 22, 23, 24, 25, 26, 27, 28, 29, 30, 31, 32, 33, 34, 35, 36, 37, 38, 39, 40, 41, 42, 43, 44, 45, 46, 47, 48, 49, 50, 51, 52, 53, 54, 55, 56, 57, 58, 59, 60, 61, 98, 99, 100, 101, 102, 103, 104, 105, 106, 107, 108, 109, 110, 111, 112, 113] (by decide +kernel) (by decide +kernel)
set_option maxRecDepth 20000 in
theorem gX0_mineBest_X0_findCandidates : GoodIn wsX0_mineBest (wsV RX0 121 RX0 yX0_findCandidates wsX0_findCandidates) := goodIn_app (goodIn_of _ (by decide +kernel)) ggX0_mineBest_X0_findCandidates
set_option maxRecDepth 20000 in
theorem ggX0_mineBest_X0_bestChoice : GoodIn wsX0_mineBest wsX0_bestChoice := goodIn_r _ [65, 3, 66, 67, 68, 69, 60, 48, 70, 61, 49, 71, 72, 73, 10, 74, 18, 19, 20, 29, 30, 31, 32, 33, 34, 35, 75, 76, 77, 78, 79, 80, 81, 82, 83, 84, 85, 86, 87, 88, 89, 90, 91, 92, 93, 94, 95, 96, 97, 98, 99, 100, 101, 102, 103, 104, 105, 106, 107, 108, 109, 110, 111, 112, 113] (by decide +kernel) (by decide +kernel)
set_option maxRecDepth 20000 in
theorem gX0_mineBest_X0_bestChoice : GoodIn wsX0_mineBest (wsV RX0 140 RX0 yX0_bestChoice wsX0_bestChoice) := goodIn_app (goodIn_of _ (by decide +kernel)) ggX0_mineBest_X0_bestChoice
set_option maxRecDepth 20000 in
theorem ggX0_mineBest_X0_has : GoodIn wsX0_mineBest wsX0_has := goodIn_r _ [20] (by decide +kernel) (by decide +kernel)
set_option maxRecDepth 20000 in
theorem gX0_mineBest_X0_has : GoodIn wsX0_mineBest (va_wsS RX0 74 yX0_has wsX0_has) := goodIn_app (goodIn_of _ (by decide +kernel)) ggX0_mineBest_X0_has
set_option maxRecDepth 20000 in
theorem ggX0_mineBest_X0_insertInOrder : GoodIn wsX0_mineBest wsX0_insertInOrder := goodIn_r _ [43] (by decide +kernel) (by decide +kernel)
set_option maxRecDepth 20000 in
theorem gX0_mineBest_X0_insertInOrder : GoodIn wsX0_mineBest (va_wsS RX0 128 yX0_insertInOrder wsX0_insertInOrder) := goodIn_app (goodIn_of _ (by decide +kernel)) ggX0_mineBest_X0_insertInOrder
set_option maxRecDepth 20000 in
theorem ggX0_mineBest_X0_costOfChoice : GoodIn wsX0_mineBest wsX0_costOfChoice := goodIn_r _ [74, 60, 61, 3, 48, 70, 49, 18, 19, 10, 20, 29, 30, 31, 32, 33, 34, 35, 75, 76, 77, 78, 79, 80, 81, 82, 83, 84, 85, 86, 87, 98, 99, 100, 101, 102, 103, 104, 105, 106, 107, 108, 109, 110, 111, 112, 113] (by decide +kernel) (by decide +kernel)
set_option maxRecDepth 20000 in
theorem gX0_mineBest_X0_costOfChoice : GoodIn wsX0_mineBest (wsV RX0 144 RX0 yX0_costOfChoice wsX0_costOfChoice) := goodIn_app (goodIn_of _ (by decide +kernel)) ggX0_mineBest_X0_costOfChoice
theorem dX0_mineBest_0 : decode cX0_mineBest 0 = .ok (.aload_n 0, 1) := by decide +kernel
theorem dX0_mineBest_1 : decode cX0_mineBest 1 = .ok (.invokevirtual 121, 3) := by decide +kernel
theorem dX0_mineBest_4 : decode cX0_mineBest 4 = .ok (.aload_n 0, 1) := by decide +kernel
theorem dX0_mineBest_5 : decode cX0_mineBest 5 = .ok (.getfield 44, 3) := by decide +kernel
theorem dX0_mineBest_8 : decode cX0_mineBest 8 = .ok (.bipush 14, 2) := by decide +kernel
theorem dX0_mineBest_10 : decode cX0_mineBest 10 = .ok (.if_icmp .le 13, 3) := by decide +kernel
theorem dX0_mineBest_13 : decode cX0_mineBest 13 = .ok (.new 111, 3) := by decide +kernel
theorem dX0_mineBest_16 : decode cX0_mineBest 16 = .ok (.dup, 1) := by decide +kernel
theorem dX0_mineBest_17 : decode cX0_mineBest 17 = .ok (.ldc 138, 2) := by decide +kernel
theorem dX0_mineBest_19 : decode cX0_mineBest 19 = .ok (.invokespecial 115, 3) := by decide +kernel
theorem dX0_mineBest_22 : decode cX0_mineBest 22 = .ok (.athrow, 1) := by decide +kernel
theorem dX0_mineBest_23 : decode cX0_mineBest 23 = .ok (.aload_n 0, 1) := by decide +kernel
theorem dX0_mineBest_24 : decode cX0_mineBest 24 = .ok (.invokevirtual 140, 3) := by decide +kernel
theorem dX0_mineBest_27 : decode cX0_mineBest 27 = .ok (.istore_n 1, 1) := by decide +kernel
theorem dX0_mineBest_28 : decode cX0_mineBest 28 = .ok (.aload_n 0, 1) := by decide +kernel
theorem dX0_mineBest_29 : decode cX0_mineBest 29 = .ok (.iconst 0, 1) := by decide +kernel
theorem dX0_mineBest_30 : decode cX0_mineBest 30 = .ok (.putfield 38, 3) := by decide +kernel
theorem dX0_mineBest_33 : decode cX0_mineBest 33 = .ok (.iconst 0, 1) := by decide +kernel
theorem dX0_mineBest_34 : decode cX0_mineBest 34 = .ok (.istore_n 2, 1) := by decide +kernel
theorem dX0_mineBest_35 : decode cX0_mineBest 35 = .ok (.iload_n 2, 1) := by decide +kernel
theorem dX0_mineBest_36 : decode cX0_mineBest 36 = .ok (.aload_n 0, 1) := by decide +kernel
theorem dX0_mineBest_37 : decode cX0_mineBest 37 = .ok (.getfield 44, 3) := by decide +kernel
theorem dX0_mineBest_40 : decode cX0_mineBest 40 = .ok (.if_icmp .ge 38, 3) := by decide +kernel
theorem dX0_mineBest_43 : decode cX0_mineBest 43 = .ok (.iload_n 1, 1) := by decide +kernel
theorem dX0_mineBest_44 : decode cX0_mineBest 44 = .ok (.iload_n 2, 1) := by decide +kernel
theorem dX0_mineBest_45 : decode cX0_mineBest 45 = .ok (.invokestatic 74, 3) := by decide +kernel
theorem dX0_mineBest_48 : decode cX0_mineBest 48 = .ok (.ifCond .eq 24, 3) := by decide +kernel
theorem dX0_mineBest_51 : decode cX0_mineBest 51 = .ok (.aload_n 0, 1) := by decide +kernel
theorem dX0_mineBest_52 : decode cX0_mineBest 52 = .ok (.aload_n 0, 1) := by decide +kernel
theorem dX0_mineBest_53 : decode cX0_mineBest 53 = .ok (.getfield 35, 3) := by decide +kernel
theorem dX0_mineBest_56 : decode cX0_mineBest 56 = .ok (.aload_n 0, 1) := by decide +kernel
theorem dX0_mineBest_57 : decode cX0_mineBest 57 = .ok (.getfield 38, 3) := by decide +kernel
theorem dX0_mineBest_60 : decode cX0_mineBest 60 = .ok (.aload_n 0, 1) := by decide +kernel
theorem dX0_mineBest_61 : decode cX0_mineBest 61 = .ok (.getfield 41, 3) := by decide +kernel
theorem dX0_mineBest_64 : decode cX0_mineBest 64 = .ok (.iload_n 2, 1) := by decide +kernel
theorem dX0_mineBest_65 : decode cX0_mineBest 65 = .ok (.iaload, 1) := by decide +kernel
theorem dX0_mineBest_66 : decode cX0_mineBest 66 = .ok (.invokestatic 128, 3) := by decide +kernel
theorem dX0_mineBest_69 : decode cX0_mineBest 69 = .ok (.putfield 38, 3) := by decide +kernel
theorem dX0_mineBest_72 : decode cX0_mineBest 72 = .ok (.iinc 2 1, 3) := by decide +kernel
theorem dX0_mineBest_75 : decode cX0_mineBest 75 = .ok (.goto (-40), 3) := by decide +kernel
theorem dX0_mineBest_78 : decode cX0_mineBest 78 = .ok (.aload_n 0, 1) := by decide +kernel
theorem dX0_mineBest_79 : decode cX0_mineBest 79 = .ok (.iload_n 1, 1) := by decide +kernel
theorem dX0_mineBest_80 : decode cX0_mineBest 80 = .ok (.invokevirtual 144, 3) := by decide +kernel
theorem dX0_mineBest_83 : decode cX0_mineBest 83 = .ok (.ireturn, 1) := by decide +kernel
theorem dX0_dropRoles_0 : decode cX0_dropRoles 0 = .ok (.aload_n 0, 1) := by decide +kernel
theorem dX0_dropRoles_1 : decode cX0_dropRoles 1 = .ok (.getfield 38, 3) := by decide +kernel
theorem dX0_dropRoles_4 : decode cX0_dropRoles 4 = .ok (.istore_n 1, 1) := by decide +kernel
theorem dX0_dropRoles_5 : decode cX0_dropRoles 5 = .ok (.aload_n 0, 1) := by decide +kernel
theorem dX0_dropRoles_6 : decode cX0_dropRoles 6 = .ok (.iconst 0, 1) := by decide +kernel
theorem dX0_dropRoles_7 : decode cX0_dropRoles 7 = .ok (.putfield 38, 3) := by decide +kernel
theorem dX0_dropRoles_10 : decode cX0_dropRoles 10 = .ok (.iload_n 1, 1) := by decide +kernel
theorem dX0_dropRoles_11 : decode cX0_dropRoles 11 = .ok (.ireturn, 1) := by decide +kernel
set_option maxRecDepth 20000 in
theorem ggX0_permissions_X0_isUser : GoodIn wsX0_permissions wsX0_isUser := goodIn_r _ [7] (by decide +kernel) (by decide +kernel)
set_option maxRecDepth 20000 in
theorem gX0_permissions_X0_isUser : GoodIn wsX0_permissions (va_wsS RX0 60 yX0_isUser wsX0_isUser) := goodIn_app (goodIn_of _ (by decide +kernel)) ggX0_permissions_X0_isUser
theorem dX0_permissions_0 : decode cX0_permissions 0 = .ok (.iload_n 1, 1) := by decide +kernel
theorem dX0_permissions_1 : decode cX0_permissions 1 = .ok (.invokestatic 60, 3) := by decide +kernel
theorem dX0_permissions_4 : decode cX0_permissions 4 = .ok (.ifCond .ne 13, 3) := by decide +kernel
theorem dX0_permissions_7 : decode cX0_permissions 7 = .ok (.new 67, 3) := by decide +kernel
theorem dX0_permissions_10 : decode cX0_permissions 10 = .ok (.dup, 1) := by decide +kernel
theorem dX0_permissions_11 : decode cX0_permissions 11 = .ok (.ldc 82, 2) := by decide +kernel
theorem dX0_permissions_13 : decode cX0_permissions 13 = .ok (.invokespecial 71, 3) := by decide +kernel
theorem dX0_permissions_16 : decode cX0_permissions 16 = .ok (.athrow, 1) := by decide +kernel
theorem dX0_permissions_17 : decode cX0_permissions 17 = .ok (.aload_n 0, 1) := by decide +kernel
theorem dX0_permissions_18 : decode cX0_permissions 18 = .ok (.getfield 9, 3) := by decide +kernel
theorem dX0_permissions_21 : decode cX0_permissions 21 = .ok (.iload_n 1, 1) := by decide +kernel
theorem dX0_permissions_22 : decode cX0_permissions 22 = .ok (.iaload, 1) := by decide +kernel
theorem dX0_permissions_23 : decode cX0_permissions 23 = .ok (.ireturn, 1) := by decide +kernel
set_option maxRecDepth 20000 in
theorem ggX0_grants_J6_bitCount_0f7a4 : GoodIn wsX0_grants wsJ6_bitCount_0f7a4 := goodIn_r _ [5, 6, 7, 8] (by decide +kernel) (by decide +kernel)
set_option maxRecDepth 20000 in
theorem gX0_grants_J6_bitCount_0f7a4 : GoodIn wsX0_grants (va_wsS RX0 92 yJ6_bitCount_0f7a4 wsJ6_bitCount_0f7a4) := goodIn_app (goodIn_of _ (by decide +kernel)) ggX0_grants_J6_bitCount_0f7a4
theorem dX0_grants_0 : decode cX0_grants 0 = .ok (.iconst 0, 1) := by decide +kernel
theorem dX0_grants_1 : decode cX0_grants 1 = .ok (.istore_n 1, 1) := by decide +kernel
theorem dX0_grants_2 : decode cX0_grants 2 = .ok (.iconst 0, 1) := by decide +kernel
theorem dX0_grants_3 : decode cX0_grants 3 = .ok (.istore_n 2, 1) := by decide +kernel
theorem dX0_grants_4 : decode cX0_grants 4 = .ok (.iload_n 2, 1) := by decide +kernel
theorem dX0_grants_5 : decode cX0_grants 5 = .ok (.bipush 8, 2) := by decide +kernel
theorem dX0_grants_7 : decode cX0_grants 7 = .ok (.if_icmp .ge 21, 3) := by decide +kernel
theorem dX0_grants_10 : decode cX0_grants 10 = .ok (.iload_n 1, 1) := by decide +kernel
theorem dX0_grants_11 : decode cX0_grants 11 = .ok (.aload_n 0, 1) := by decide +kernel
theorem dX0_grants_12 : decode cX0_grants 12 = .ok (.getfield 9, 3) := by decide +kernel
theorem dX0_grants_15 : decode cX0_grants 15 = .ok (.iload_n 2, 1) := by decide +kernel
theorem dX0_grants_16 : decode cX0_grants 16 = .ok (.iaload, 1) := by decide +kernel
theorem dX0_grants_17 : decode cX0_grants 17 = .ok (.invokestatic 92, 3) := by decide +kernel
theorem dX0_grants_20 : decode cX0_grants 20 = .ok (.iadd, 1) := by decide +kernel
theorem dX0_grants_21 : decode cX0_grants 21 = .ok (.istore_n 1, 1) := by decide +kernel
theorem dX0_grants_22 : decode cX0_grants 22 = .ok (.iinc 2 1, 3) := by decide +kernel
theorem dX0_grants_25 : decode cX0_grants 25 = .ok (.goto (-21), 3) := by decide +kernel
theorem dX0_grants_28 : decode cX0_grants 28 = .ok (.iload_n 1, 1) := by decide +kernel
theorem dX0_grants_29 : decode cX0_grants 29 = .ok (.ireturn, 1) := by decide +kernel
set_option maxRecDepth 20000 in
theorem ggX0_violations_X0_isUser : GoodIn wsX0_violations wsX0_isUser := goodIn_r _ [8] (by decide +kernel) (by decide +kernel)
set_option maxRecDepth 20000 in
theorem gX0_violations_X0_isUser : GoodIn wsX0_violations (va_wsS RX0 60 yX0_isUser wsX0_isUser) := goodIn_app (goodIn_of _ (by decide +kernel)) ggX0_violations_X0_isUser
set_option maxRecDepth 20000 in
theorem ggX0_violations_X0_has : GoodIn wsX0_violations wsX0_has := goodIn_r _ [11] (by decide +kernel) (by decide +kernel)
set_option maxRecDepth 20000 in
theorem gX0_violations_X0_has : GoodIn wsX0_violations (va_wsS RX0 74 yX0_has wsX0_has) := goodIn_app (goodIn_of _ (by decide +kernel)) ggX0_violations_X0_has
set_option maxRecDepth 20000 in
theorem ggX0_violations_J6_bitCount_0f7a4 : GoodIn wsX0_violations wsJ6_bitCount_0f7a4 := goodIn_r _ [15, 16, 17, 18] (by decide +kernel) (by decide +kernel)
set_option maxRecDepth 20000 in
theorem gX0_violations_J6_bitCount_0f7a4 : GoodIn wsX0_violations (va_wsS RX0 92 yJ6_bitCount_0f7a4 wsJ6_bitCount_0f7a4) := goodIn_app (goodIn_of _ (by decide +kernel)) ggX0_violations_J6_bitCount_0f7a4
theorem dX0_violations_0 : decode cX0_violations 0 = .ok (.iload_n 1, 1) := by decide +kernel
theorem dX0_violations_1 : decode cX0_violations 1 = .ok (.invokestatic 60, 3) := by decide +kernel
theorem dX0_violations_4 : decode cX0_violations 4 = .ok (.ifCond .ne 13, 3) := by decide +kernel
theorem dX0_violations_7 : decode cX0_violations 7 = .ok (.new 67, 3) := by decide +kernel
theorem dX0_violations_10 : decode cX0_violations 10 = .ok (.dup, 1) := by decide +kernel
theorem dX0_violations_11 : decode cX0_violations 11 = .ok (.ldc 82, 2) := by decide +kernel
theorem dX0_violations_13 : decode cX0_violations 13 = .ok (.invokespecial 71, 3) := by decide +kernel
theorem dX0_violations_16 : decode cX0_violations 16 = .ok (.athrow, 1) := by decide +kernel
theorem dX0_violations_17 : decode cX0_violations 17 = .ok (.iconst 0, 1) := by decide +kernel
theorem dX0_violations_18 : decode cX0_violations 18 = .ok (.istore_n 2, 1) := by decide +kernel
theorem dX0_violations_19 : decode cX0_violations 19 = .ok (.iconst 0, 1) := by decide +kernel
theorem dX0_violations_20 : decode cX0_violations 20 = .ok (.istore_n 3, 1) := by decide +kernel
theorem dX0_violations_21 : decode cX0_violations 21 = .ok (.iload_n 3, 1) := by decide +kernel
theorem dX0_violations_22 : decode cX0_violations 22 = .ok (.bipush 12, 2) := by decide +kernel
theorem dX0_violations_24 : decode cX0_violations 24 = .ok (.if_icmp .ge 41, 3) := by decide +kernel
theorem dX0_violations_27 : decode cX0_violations 27 = .ok (.aload_n 0, 1) := by decide +kernel
theorem dX0_violations_28 : decode cX0_violations 28 = .ok (.getfield 9, 3) := by decide +kernel
theorem dX0_violations_31 : decode cX0_violations 31 = .ok (.iload_n 1, 1) := by decide +kernel
theorem dX0_violations_32 : decode cX0_violations 32 = .ok (.iaload, 1) := by decide +kernel
theorem dX0_violations_33 : decode cX0_violations 33 = .ok (.iload_n 3, 1) := by decide +kernel
theorem dX0_violations_34 : decode cX0_violations 34 = .ok (.invokestatic 74, 3) := by decide +kernel
theorem dX0_violations_37 : decode cX0_violations 37 = .ok (.ifCond .eq 22, 3) := by decide +kernel
theorem dX0_violations_40 : decode cX0_violations 40 = .ok (.iload_n 2, 1) := by decide +kernel
theorem dX0_violations_41 : decode cX0_violations 41 = .ok (.aload_n 0, 1) := by decide +kernel
theorem dX0_violations_42 : decode cX0_violations 42 = .ok (.getfield 16, 3) := by decide +kernel
theorem dX0_violations_45 : decode cX0_violations 45 = .ok (.iload_n 3, 1) := by decide +kernel
theorem dX0_violations_46 : decode cX0_violations 46 = .ok (.iaload, 1) := by decide +kernel
theorem dX0_violations_47 : decode cX0_violations 47 = .ok (.aload_n 0, 1) := by decide +kernel
theorem dX0_violations_48 : decode cX0_violations 48 = .ok (.getfield 9, 3) := by decide +kernel
theorem dX0_violations_51 : decode cX0_violations 51 = .ok (.iload_n 1, 1) := by decide +kernel
theorem dX0_violations_52 : decode cX0_violations 52 = .ok (.iaload, 1) := by decide +kernel
theorem dX0_violations_53 : decode cX0_violations 53 = .ok (.iand, 1) := by decide +kernel
theorem dX0_violations_54 : decode cX0_violations 54 = .ok (.invokestatic 92, 3) := by decide +kernel
theorem dX0_violations_57 : decode cX0_violations 57 = .ok (.iadd, 1) := by decide +kernel
theorem dX0_violations_58 : decode cX0_violations 58 = .ok (.istore_n 2, 1) := by decide +kernel
theorem dX0_violations_59 : decode cX0_violations 59 = .ok (.iinc 3 1, 3) := by decide +kernel
theorem dX0_violations_62 : decode cX0_violations 62 = .ok (.goto (-41), 3) := by decide +kernel
theorem dX0_violations_65 : decode cX0_violations 65 = .ok (.iload_n 2, 1) := by decide +kernel
theorem dX0_violations_66 : decode cX0_violations 66 = .ok (.iconst 2, 1) := by decide +kernel
theorem dX0_violations_67 : decode cX0_violations 67 = .ok (.idiv, 1) := by decide +kernel
theorem dX0_violations_68 : decode cX0_violations 68 = .ok (.ireturn, 1) := by decide +kernel
theorem dX0_quarter_0 : decode cX0_quarter 0 = .ok (.aload_n 0, 1) := by decide +kernel
theorem dX0_quarter_1 : decode cX0_quarter 1 = .ok (.getfield 32, 3) := by decide +kernel
theorem dX0_quarter_4 : decode cX0_quarter 4 = .ok (.ireturn, 1) := by decide +kernel
set_option maxRecDepth 20000 in
theorem ggX0_due_X0_isUser : GoodIn wsX0_due wsX0_isUser := goodIn_r _ [7] (by decide +kernel) (by decide +kernel)
set_option maxRecDepth 20000 in
theorem gX0_due_X0_isUser : GoodIn wsX0_due (va_wsS RX0 60 yX0_isUser wsX0_isUser) := goodIn_app (goodIn_of _ (by decide +kernel)) ggX0_due_X0_isUser
set_option maxRecDepth 20000 in
theorem ggX0_due_X0_lapsingIn : GoodIn wsX0_due wsX0_lapsingIn := goodIn_r _ [11, 12, 13, 14, 15, 16, 6, 17, 18, 19, 20, 21, 22, 23, 24, 25, 26, 27, 28, 29, 30, 31, 32, 33, 34, 35, 36] (by decide +kernel) (by decide +kernel)
set_option maxRecDepth 20000 in
theorem gX0_due_X0_lapsingIn : GoodIn wsX0_due (wsV RX0 118 RX0 yX0_lapsingIn wsX0_lapsingIn) := goodIn_app (goodIn_of _ (by decide +kernel)) ggX0_due_X0_lapsingIn
theorem dX0_due_0 : decode cX0_due 0 = .ok (.iload_n 1, 1) := by decide +kernel
theorem dX0_due_1 : decode cX0_due 1 = .ok (.invokestatic 60, 3) := by decide +kernel
theorem dX0_due_4 : decode cX0_due 4 = .ok (.ifCond .ne 13, 3) := by decide +kernel
theorem dX0_due_7 : decode cX0_due 7 = .ok (.new 67, 3) := by decide +kernel
theorem dX0_due_10 : decode cX0_due 10 = .ok (.dup, 1) := by decide +kernel
theorem dX0_due_11 : decode cX0_due 11 = .ok (.ldc 82, 2) := by decide +kernel
theorem dX0_due_13 : decode cX0_due 13 = .ok (.invokespecial 71, 3) := by decide +kernel
theorem dX0_due_16 : decode cX0_due 16 = .ok (.athrow, 1) := by decide +kernel
theorem dX0_due_17 : decode cX0_due 17 = .ok (.aload_n 0, 1) := by decide +kernel
theorem dX0_due_18 : decode cX0_due 18 = .ok (.aload_n 0, 1) := by decide +kernel
theorem dX0_due_19 : decode cX0_due 19 = .ok (.getfield 32, 3) := by decide +kernel
theorem dX0_due_22 : decode cX0_due 22 = .ok (.iconst 1, 1) := by decide +kernel
theorem dX0_due_23 : decode cX0_due 23 = .ok (.iadd, 1) := by decide +kernel
theorem dX0_due_24 : decode cX0_due 24 = .ok (.iload_n 1, 1) := by decide +kernel
theorem dX0_due_25 : decode cX0_due 25 = .ok (.invokevirtual 118, 3) := by decide +kernel
theorem dX0_due_28 : decode cX0_due 28 = .ok (.ireturn, 1) := by decide +kernel
set_option maxRecDepth 20000 in
theorem ggX0_candidates_X0_findCandidates : GoodIn wsX0_candidates wsX0_findCandidates := goodIn_r _ [6, 1, 7, 8, 9, 10, 11, 5, 12, 13, 14, 15, 16, 17, 18, 19, 20, 21, 22, 23, 24, 25, 26, 27, 28, 29, 30, 31, 32, 33, 34, 35, 36, 37, 38, 39, 40, 41, 42, 43, 44, 45, 46, 47, 48, 49, 50, 51, 52, 53, 54, 55, 56, 57, 58, 59, 60, 61, 62, 63, 64, 65, 66, 67, 68, 69, 70, 71, 72, 73] (by decide +kernel) (by decide +kernel)
set_option maxRecDepth 20000 in
theorem gX0_candidates_X0_findCandidates : GoodIn wsX0_candidates (wsV RX0 121 RX0 yX0_findCandidates wsX0_findCandidates) := goodIn_app (goodIn_of _ (by decide +kernel)) ggX0_candidates_X0_findCandidates
theorem dX0_candidates_0 : decode cX0_candidates 0 = .ok (.aload_n 0, 1) := by decide +kernel
theorem dX0_candidates_1 : decode cX0_candidates 1 = .ok (.invokevirtual 121, 3) := by decide +kernel
theorem dX0_candidates_4 : decode cX0_candidates 4 = .ok (.aload_n 0, 1) := by decide +kernel
theorem dX0_candidates_5 : decode cX0_candidates 5 = .ok (.getfield 44, 3) := by decide +kernel
theorem dX0_candidates_8 : decode cX0_candidates 8 = .ok (.ireturn, 1) := by decide +kernel
set_option maxRecDepth 20000 in
theorem ggX0_candidate_X0_findCandidates : GoodIn wsX0_candidate wsX0_findCandidates := goodIn_r _ [9, 3, 10, 4, 11, 12, 13, 8, 14, 15, 16, 17, 18, 19, 20, 21, 22, 23, 24, 25, 26, 27, 28, 29, 30, 31, 32, 33, 34, 35, 36, 37, 38, 39, 40, 41, 42, 43, 44, 45, 46, 47, 48, 49, 50, 51, 52, 53, 54, 55, 56, 57, 58, 59, 60, 61, 62, 63, 64, 65, 66, 67, 68, 69, 70, 71, 72, 73, 74, 75] (by decide +kernel) (by decide +kernel)
set_option maxRecDepth 20000 in
theorem gX0_candidate_X0_findCandidates : GoodIn wsX0_candidate (wsV RX0 121 RX0 yX0_findCandidates wsX0_findCandidates) := goodIn_app (goodIn_of _ (by decide +kernel)) ggX0_candidate_X0_findCandidates
theorem dX0_candidate_0 : decode cX0_candidate 0 = .ok (.aload_n 0, 1) := by decide +kernel
theorem dX0_candidate_1 : decode cX0_candidate 1 = .ok (.invokevirtual 121, 3) := by decide +kernel
theorem dX0_candidate_4 : decode cX0_candidate 4 = .ok (.iload_n 1, 1) := by decide +kernel
theorem dX0_candidate_5 : decode cX0_candidate 5 = .ok (.ifCond .lt 11, 3) := by decide +kernel
theorem dX0_candidate_8 : decode cX0_candidate 8 = .ok (.iload_n 1, 1) := by decide +kernel
theorem dX0_candidate_9 : decode cX0_candidate 9 = .ok (.aload_n 0, 1) := by decide +kernel
theorem dX0_candidate_10 : decode cX0_candidate 10 = .ok (.getfield 44, 3) := by decide +kernel
theorem dX0_candidate_13 : decode cX0_candidate 13 = .ok (.if_icmp .lt 13, 3) := by decide +kernel
theorem dX0_candidate_16 : decode cX0_candidate 16 = .ok (.new 67, 3) := by decide +kernel
theorem dX0_candidate_19 : decode cX0_candidate 19 = .ok (.dup, 1) := by decide +kernel
theorem dX0_candidate_20 : decode cX0_candidate 20 = .ok (.ldc 147, 2) := by decide +kernel
theorem dX0_candidate_22 : decode cX0_candidate 22 = .ok (.invokespecial 71, 3) := by decide +kernel
theorem dX0_candidate_25 : decode cX0_candidate 25 = .ok (.athrow, 1) := by decide +kernel
theorem dX0_candidate_26 : decode cX0_candidate 26 = .ok (.aload_n 0, 1) := by decide +kernel
theorem dX0_candidate_27 : decode cX0_candidate 27 = .ok (.getfield 41, 3) := by decide +kernel
theorem dX0_candidate_30 : decode cX0_candidate 30 = .ok (.iload_n 1, 1) := by decide +kernel
theorem dX0_candidate_31 : decode cX0_candidate 31 = .ok (.iaload, 1) := by decide +kernel
theorem dX0_candidate_32 : decode cX0_candidate 32 = .ok (.ireturn, 1) := by decide +kernel
set_option maxRecDepth 20000 in
theorem ggX0_holders_X0_isPermissionSet : GoodIn wsX0_holders wsX0_isPermissionSet := goodIn_r _ [6] (by decide +kernel) (by decide +kernel)
set_option maxRecDepth 20000 in
theorem gX0_holders_X0_isPermissionSet : GoodIn wsX0_holders (va_wsS RX0 84 yX0_isPermissionSet wsX0_isPermissionSet) := goodIn_app (goodIn_of _ (by decide +kernel)) ggX0_holders_X0_isPermissionSet
set_option maxRecDepth 20000 in
theorem ggX0_holders_X0_holdersOf : GoodIn wsX0_holders wsX0_holdersOf := goodIn_r _ [10, 11, 12, 13, 5, 14, 15, 16, 17, 18, 19, 20, 21, 22, 23, 24, 25, 26, 27, 28, 29, 30, 31] (by decide +kernel) (by decide +kernel)
set_option maxRecDepth 20000 in
theorem gX0_holders_X0_holdersOf : GoodIn wsX0_holders (wsV RX0 149 RX0 yX0_holdersOf wsX0_holdersOf) := goodIn_app (goodIn_of _ (by decide +kernel)) ggX0_holders_X0_holdersOf
theorem dX0_holders_0 : decode cX0_holders 0 = .ok (.iload_n 1, 1) := by decide +kernel
theorem dX0_holders_1 : decode cX0_holders 1 = .ok (.invokestatic 84, 3) := by decide +kernel
theorem dX0_holders_4 : decode cX0_holders 4 = .ok (.ifCond .ne 13, 3) := by decide +kernel
theorem dX0_holders_7 : decode cX0_holders 7 = .ok (.new 87, 3) := by decide +kernel
theorem dX0_holders_10 : decode cX0_holders 10 = .ok (.dup, 1) := by decide +kernel
theorem dX0_holders_11 : decode cX0_holders 11 = .ok (.ldc 89, 2) := by decide +kernel
theorem dX0_holders_13 : decode cX0_holders 13 = .ok (.invokespecial 91, 3) := by decide +kernel
theorem dX0_holders_16 : decode cX0_holders 16 = .ok (.athrow, 1) := by decide +kernel
theorem dX0_holders_17 : decode cX0_holders 17 = .ok (.aload_n 0, 1) := by decide +kernel
theorem dX0_holders_18 : decode cX0_holders 18 = .ok (.iload_n 1, 1) := by decide +kernel
theorem dX0_holders_19 : decode cX0_holders 19 = .ok (.invokevirtual 149, 3) := by decide +kernel
theorem dX0_holders_22 : decode cX0_holders 22 = .ok (.ireturn, 1) := by decide +kernel
set_option maxRecDepth 20000 in
theorem ggX0_costOf_X0_findCandidates : GoodIn wsX0_costOf wsX0_findCandidates := goodIn_r _ [10, 5, 11, 12, 13, 14, 15, 9, 16, 17, 18, 19, 20, 21, 22, 23, 24, 25, 26, 27, 28, 29, 30, 31, 32, 33, 34, 35, 36, 37, 38, 39, 40, 41, 42, 43, 44, 45, 46, 47, 48, 49, 50, 51, 52, 53, 54, 55, 56, 57, 58, 59, 60, 61, 80, 81, 82, 83, 84, 85, 86, 87, 88, 89, 90, 91, 92, 93, 94, 95] (by decide +kernel) (by decide +kernel)
set_option maxRecDepth 20000 in
theorem gX0_costOf_X0_findCandidates : GoodIn wsX0_costOf (wsV RX0 121 RX0 yX0_findCandidates wsX0_findCandidates) := goodIn_app (goodIn_of _ (by decide +kernel)) ggX0_costOf_X0_findCandidates
set_option maxRecDepth 20000 in
theorem ggX0_costOf_X0_costOfChoice : GoodIn wsX0_costOf wsX0_costOfChoice := goodIn_r _ [65, 60, 61, 5, 48, 66, 49, 18, 19, 9, 20, 29, 30, 31, 32, 33, 34, 35, 67, 68, 69, 70, 71, 72, 73, 74, 75, 76, 77, 78, 79, 80, 81, 82, 83, 84, 85, 86, 87, 88, 89, 90, 91, 92, 93, 94, 95] (by decide +kernel) (by decide +kernel)
set_option maxRecDepth 20000 in
theorem gX0_costOf_X0_costOfChoice : GoodIn wsX0_costOf (wsV RX0 144 RX0 yX0_costOfChoice wsX0_costOfChoice) := goodIn_app (goodIn_of _ (by decide +kernel)) ggX0_costOf_X0_costOfChoice
theorem dX0_costOf_0 : decode cX0_costOf 0 = .ok (.aload_n 0, 1) := by decide +kernel
theorem dX0_costOf_1 : decode cX0_costOf 1 = .ok (.invokevirtual 121, 3) := by decide +kernel
theorem dX0_costOf_4 : decode cX0_costOf 4 = .ok (.aload_n 0, 1) := by decide +kernel
theorem dX0_costOf_5 : decode cX0_costOf 5 = .ok (.getfield 44, 3) := by decide +kernel
theorem dX0_costOf_8 : decode cX0_costOf 8 = .ok (.bipush 14, 2) := by decide +kernel
theorem dX0_costOf_10 : decode cX0_costOf 10 = .ok (.if_icmp .le 13, 3) := by decide +kernel
theorem dX0_costOf_13 : decode cX0_costOf 13 = .ok (.new 111, 3) := by decide +kernel
theorem dX0_costOf_16 : decode cX0_costOf 16 = .ok (.dup, 1) := by decide +kernel
theorem dX0_costOf_17 : decode cX0_costOf 17 = .ok (.ldc 138, 2) := by decide +kernel
theorem dX0_costOf_19 : decode cX0_costOf 19 = .ok (.invokespecial 115, 3) := by decide +kernel
theorem dX0_costOf_22 : decode cX0_costOf 22 = .ok (.athrow, 1) := by decide +kernel
theorem dX0_costOf_23 : decode cX0_costOf 23 = .ok (.iload_n 1, 1) := by decide +kernel
theorem dX0_costOf_24 : decode cX0_costOf 24 = .ok (.ifCond .lt 13, 3) := by decide +kernel
theorem dX0_costOf_27 : decode cX0_costOf 27 = .ok (.iload_n 1, 1) := by decide +kernel
theorem dX0_costOf_28 : decode cX0_costOf 28 = .ok (.iconst 1, 1) := by decide +kernel
theorem dX0_costOf_29 : decode cX0_costOf 29 = .ok (.aload_n 0, 1) := by decide +kernel
theorem dX0_costOf_30 : decode cX0_costOf 30 = .ok (.getfield 44, 3) := by decide +kernel
theorem dX0_costOf_33 : decode cX0_costOf 33 = .ok (.ishl, 1) := by decide +kernel
theorem dX0_costOf_34 : decode cX0_costOf 34 = .ok (.if_icmp .lt 13, 3) := by decide +kernel
theorem dX0_costOf_37 : decode cX0_costOf 37 = .ok (.new 87, 3) := by decide +kernel
theorem dX0_costOf_40 : decode cX0_costOf 40 = .ok (.dup, 1) := by decide +kernel
theorem dX0_costOf_41 : decode cX0_costOf 41 = .ok (.ldc 152, 2) := by decide +kernel
theorem dX0_costOf_43 : decode cX0_costOf 43 = .ok (.invokespecial 91, 3) := by decide +kernel
theorem dX0_costOf_46 : decode cX0_costOf 46 = .ok (.athrow, 1) := by decide +kernel
theorem dX0_costOf_47 : decode cX0_costOf 47 = .ok (.aload_n 0, 1) := by decide +kernel
theorem dX0_costOf_48 : decode cX0_costOf 48 = .ok (.iload_n 1, 1) := by decide +kernel
theorem dX0_costOf_49 : decode cX0_costOf 49 = .ok (.invokevirtual 144, 3) := by decide +kernel
theorem dX0_costOf_52 : decode cX0_costOf 52 = .ok (.ireturn, 1) := by decide +kernel
set_option maxRecDepth 20000 in
theorem ggX0_leastCost_X0_findCandidates : GoodIn wsX0_leastCost wsX0_findCandidates := goodIn_r _ [8, 3, 9, 10, 11, 12, 13, 7, 14, 15, 16, 17, 18, 19, 20, 21, 22, 23, 24, 25, 26, 27, 28, 29, 30, 31, 32, 33, 34, 35, 36, 37, 38, 39, 40, 41, 42, 43, 44, 45, 46, 47, 48, 49, 50, 51, 52, 53, 54, 55, 56, 57, 58, 59, 96, 97, 98, 99, 100, 101, 102, 103, 104, 105, 106, 107, 108, 109, 110, 111] (by decide +kernel) (by decide +kernel)
set_option maxRecDepth 20000 in
theorem gX0_leastCost_X0_findCandidates : GoodIn wsX0_leastCost (wsV RX0 121 RX0 yX0_findCandidates wsX0_findCandidates) := goodIn_app (goodIn_of _ (by decide +kernel)) ggX0_leastCost_X0_findCandidates
set_option maxRecDepth 20000 in
theorem ggX0_leastCost_X0_bestChoice : GoodIn wsX0_leastCost wsX0_bestChoice := goodIn_r _ [63, 3, 64, 65, 66, 67, 58, 46, 68, 59, 47, 69, 70, 71, 7, 72, 16, 17, 18, 27, 28, 29, 30, 31, 32, 33, 73, 74, 75, 76, 77, 78, 79, 80, 81, 82, 83, 84, 85, 86, 87, 88, 89, 90, 91, 92, 93, 94, 95, 96, 97, 98, 99, 100, 101, 102, 103, 104, 105, 106, 107, 108, 109, 110, 111] (by decide +kernel) (by decide +kernel)
set_option maxRecDepth 20000 in
theorem gX0_leastCost_X0_bestChoice : GoodIn wsX0_leastCost (wsV RX0 140 RX0 yX0_bestChoice wsX0_bestChoice) := goodIn_app (goodIn_of _ (by decide +kernel)) ggX0_leastCost_X0_bestChoice
set_option maxRecDepth 20000 in
theorem ggX0_leastCost_X0_costOfChoice : GoodIn wsX0_leastCost wsX0_costOfChoice := goodIn_r _ [72, 58, 59, 3, 46, 68, 47, 16, 17, 7, 18, 27, 28, 29, 30, 31, 32, 33, 73, 74, 75, 76, 77, 78, 79, 80, 81, 82, 83, 84, 85, 96, 97, 98, 99, 100, 101, 102, 103, 104, 105, 106, 107, 108, 109, 110, 111] (by decide +kernel) (by decide +kernel)
set_option maxRecDepth 20000 in
theorem gX0_leastCost_X0_costOfChoice : GoodIn wsX0_leastCost (wsV RX0 144 RX0 yX0_costOfChoice wsX0_costOfChoice) := goodIn_app (goodIn_of _ (by decide +kernel)) ggX0_leastCost_X0_costOfChoice
theorem dX0_leastCost_0 : decode cX0_leastCost 0 = .ok (.aload_n 0, 1) := by decide +kernel
theorem dX0_leastCost_1 : decode cX0_leastCost 1 = .ok (.invokevirtual 121, 3) := by decide +kernel
theorem dX0_leastCost_4 : decode cX0_leastCost 4 = .ok (.aload_n 0, 1) := by decide +kernel
theorem dX0_leastCost_5 : decode cX0_leastCost 5 = .ok (.getfield 44, 3) := by decide +kernel
theorem dX0_leastCost_8 : decode cX0_leastCost 8 = .ok (.bipush 14, 2) := by decide +kernel
theorem dX0_leastCost_10 : decode cX0_leastCost 10 = .ok (.if_icmp .le 13, 3) := by decide +kernel
theorem dX0_leastCost_13 : decode cX0_leastCost 13 = .ok (.new 111, 3) := by decide +kernel
theorem dX0_leastCost_16 : decode cX0_leastCost 16 = .ok (.dup, 1) := by decide +kernel
theorem dX0_leastCost_17 : decode cX0_leastCost 17 = .ok (.ldc 138, 2) := by decide +kernel
theorem dX0_leastCost_19 : decode cX0_leastCost 19 = .ok (.invokespecial 115, 3) := by decide +kernel
theorem dX0_leastCost_22 : decode cX0_leastCost 22 = .ok (.athrow, 1) := by decide +kernel
theorem dX0_leastCost_23 : decode cX0_leastCost 23 = .ok (.aload_n 0, 1) := by decide +kernel
theorem dX0_leastCost_24 : decode cX0_leastCost 24 = .ok (.aload_n 0, 1) := by decide +kernel
theorem dX0_leastCost_25 : decode cX0_leastCost 25 = .ok (.invokevirtual 140, 3) := by decide +kernel
theorem dX0_leastCost_28 : decode cX0_leastCost 28 = .ok (.invokevirtual 144, 3) := by decide +kernel
theorem dX0_leastCost_31 : decode cX0_leastCost 31 = .ok (.ireturn, 1) := by decide +kernel
theorem dX0_roles_0 : decode cX0_roles 0 = .ok (.aload_n 0, 1) := by decide +kernel
theorem dX0_roles_1 : decode cX0_roles 1 = .ok (.getfield 38, 3) := by decide +kernel
theorem dX0_roles_4 : decode cX0_roles 4 = .ok (.ireturn, 1) := by decide +kernel
theorem dX0_role_0 : decode cX0_role 0 = .ok (.iload_n 1, 1) := by decide +kernel
theorem dX0_role_1 : decode cX0_role 1 = .ok (.ifCond .lt 11, 3) := by decide +kernel
theorem dX0_role_4 : decode cX0_role 4 = .ok (.iload_n 1, 1) := by decide +kernel
theorem dX0_role_5 : decode cX0_role 5 = .ok (.aload_n 0, 1) := by decide +kernel
theorem dX0_role_6 : decode cX0_role 6 = .ok (.getfield 38, 3) := by decide +kernel
theorem dX0_role_9 : decode cX0_role 9 = .ok (.if_icmp .lt 13, 3) := by decide +kernel
theorem dX0_role_12 : decode cX0_role 12 = .ok (.new 67, 3) := by decide +kernel
theorem dX0_role_15 : decode cX0_role 15 = .ok (.dup, 1) := by decide +kernel
theorem dX0_role_16 : decode cX0_role 16 = .ok (.ldc 154, 2) := by decide +kernel
theorem dX0_role_18 : decode cX0_role 18 = .ok (.invokespecial 71, 3) := by decide +kernel
theorem dX0_role_21 : decode cX0_role 21 = .ok (.athrow, 1) := by decide +kernel
theorem dX0_role_22 : decode cX0_role 22 = .ok (.aload_n 0, 1) := by decide +kernel
theorem dX0_role_23 : decode cX0_role 23 = .ok (.getfield 35, 3) := by decide +kernel
theorem dX0_role_26 : decode cX0_role 26 = .ok (.iload_n 1, 1) := by decide +kernel
theorem dX0_role_27 : decode cX0_role 27 = .ok (.iaload, 1) := by decide +kernel
theorem dX0_role_28 : decode cX0_role 28 = .ok (.ireturn, 1) := by decide +kernel
set_option maxRecDepth 20000 in
theorem ggX0_rolesOf_X0_isUser : GoodIn wsX0_rolesOf wsX0_isUser := goodIn_r _ [8] (by decide +kernel) (by decide +kernel)
set_option maxRecDepth 20000 in
theorem gX0_rolesOf_X0_isUser : GoodIn wsX0_rolesOf (va_wsS RX0 60 yX0_isUser wsX0_isUser) := goodIn_app (goodIn_of _ (by decide +kernel)) ggX0_rolesOf_X0_isUser
set_option maxRecDepth 20000 in
theorem ggX0_rolesOf_X0_holds : GoodIn wsX0_rolesOf wsX0_holds := goodIn_r _ [12, 13, 14, 15, 16, 17, 18, 19, 20, 21, 22, 23, 24, 25, 26, 27, 28, 29] (by decide +kernel) (by decide +kernel)
set_option maxRecDepth 20000 in
theorem gX0_rolesOf_X0_holds : GoodIn wsX0_rolesOf (wsV RX0 156 RX0 yX0_holds wsX0_holds) := goodIn_app (goodIn_of _ (by decide +kernel)) ggX0_rolesOf_X0_holds
theorem dX0_rolesOf_0 : decode cX0_rolesOf 0 = .ok (.iload_n 1, 1) := by decide +kernel
theorem dX0_rolesOf_1 : decode cX0_rolesOf 1 = .ok (.invokestatic 60, 3) := by decide +kernel
theorem dX0_rolesOf_4 : decode cX0_rolesOf 4 = .ok (.ifCond .ne 13, 3) := by decide +kernel
theorem dX0_rolesOf_7 : decode cX0_rolesOf 7 = .ok (.new 67, 3) := by decide +kernel
theorem dX0_rolesOf_10 : decode cX0_rolesOf 10 = .ok (.dup, 1) := by decide +kernel
theorem dX0_rolesOf_11 : decode cX0_rolesOf 11 = .ok (.ldc 82, 2) := by decide +kernel
theorem dX0_rolesOf_13 : decode cX0_rolesOf 13 = .ok (.invokespecial 71, 3) := by decide +kernel
theorem dX0_rolesOf_16 : decode cX0_rolesOf 16 = .ok (.athrow, 1) := by decide +kernel
theorem dX0_rolesOf_17 : decode cX0_rolesOf 17 = .ok (.iconst 0, 1) := by decide +kernel
theorem dX0_rolesOf_18 : decode cX0_rolesOf 18 = .ok (.istore_n 2, 1) := by decide +kernel
theorem dX0_rolesOf_19 : decode cX0_rolesOf 19 = .ok (.iconst 0, 1) := by decide +kernel
theorem dX0_rolesOf_20 : decode cX0_rolesOf 20 = .ok (.istore_n 3, 1) := by decide +kernel
theorem dX0_rolesOf_21 : decode cX0_rolesOf 21 = .ok (.iload_n 3, 1) := by decide +kernel
theorem dX0_rolesOf_22 : decode cX0_rolesOf 22 = .ok (.aload_n 0, 1) := by decide +kernel
theorem dX0_rolesOf_23 : decode cX0_rolesOf 23 = .ok (.getfield 38, 3) := by decide +kernel
theorem dX0_rolesOf_26 : decode cX0_rolesOf 26 = .ok (.if_icmp .ge 26, 3) := by decide +kernel
theorem dX0_rolesOf_29 : decode cX0_rolesOf 29 = .ok (.aload_n 0, 1) := by decide +kernel
theorem dX0_rolesOf_30 : decode cX0_rolesOf 30 = .ok (.iload_n 1, 1) := by decide +kernel
theorem dX0_rolesOf_31 : decode cX0_rolesOf 31 = .ok (.aload_n 0, 1) := by decide +kernel
theorem dX0_rolesOf_32 : decode cX0_rolesOf 32 = .ok (.getfield 35, 3) := by decide +kernel
theorem dX0_rolesOf_35 : decode cX0_rolesOf 35 = .ok (.iload_n 3, 1) := by decide +kernel
theorem dX0_rolesOf_36 : decode cX0_rolesOf 36 = .ok (.iaload, 1) := by decide +kernel
theorem dX0_rolesOf_37 : decode cX0_rolesOf 37 = .ok (.invokevirtual 156, 3) := by decide +kernel
theorem dX0_rolesOf_40 : decode cX0_rolesOf 40 = .ok (.ifCond .eq 6, 3) := by decide +kernel
theorem dX0_rolesOf_43 : decode cX0_rolesOf 43 = .ok (.iinc 2 1, 3) := by decide +kernel
theorem dX0_rolesOf_46 : decode cX0_rolesOf 46 = .ok (.iinc 3 1, 3) := by decide +kernel
theorem dX0_rolesOf_49 : decode cX0_rolesOf 49 = .ok (.goto (-28), 3) := by decide +kernel
theorem dX0_rolesOf_52 : decode cX0_rolesOf 52 = .ok (.iload_n 2, 1) := by decide +kernel
theorem dX0_rolesOf_53 : decode cX0_rolesOf 53 = .ok (.ireturn, 1) := by decide +kernel
set_option maxRecDepth 20000 in
theorem ggX0_byRoles_X0_isUser : GoodIn wsX0_byRoles wsX0_isUser := goodIn_r _ [6] (by decide +kernel) (by decide +kernel)
set_option maxRecDepth 20000 in
theorem gX0_byRoles_X0_isUser : GoodIn wsX0_byRoles (va_wsS RX0 60 yX0_isUser wsX0_isUser) := goodIn_app (goodIn_of _ (by decide +kernel)) ggX0_byRoles_X0_isUser
set_option maxRecDepth 20000 in
theorem ggX0_byRoles_X0_joinedRoles : GoodIn wsX0_byRoles wsX0_joinedRoles := goodIn_r _ [10, 11, 12, 13, 14, 15, 5, 16, 17, 18, 19, 20, 21, 22, 23, 24, 25, 26, 27, 28, 29, 30, 31, 32, 33] (by decide +kernel) (by decide +kernel)
set_option maxRecDepth 20000 in
theorem gX0_byRoles_X0_joinedRoles : GoodIn wsX0_byRoles (wsV RX0 159 RX0 yX0_joinedRoles wsX0_joinedRoles) := goodIn_app (goodIn_of _ (by decide +kernel)) ggX0_byRoles_X0_joinedRoles
theorem dX0_byRoles_0 : decode cX0_byRoles 0 = .ok (.iload_n 1, 1) := by decide +kernel
theorem dX0_byRoles_1 : decode cX0_byRoles 1 = .ok (.invokestatic 60, 3) := by decide +kernel
theorem dX0_byRoles_4 : decode cX0_byRoles 4 = .ok (.ifCond .ne 13, 3) := by decide +kernel
theorem dX0_byRoles_7 : decode cX0_byRoles 7 = .ok (.new 67, 3) := by decide +kernel
theorem dX0_byRoles_10 : decode cX0_byRoles 10 = .ok (.dup, 1) := by decide +kernel
theorem dX0_byRoles_11 : decode cX0_byRoles 11 = .ok (.ldc 82, 2) := by decide +kernel
theorem dX0_byRoles_13 : decode cX0_byRoles 13 = .ok (.invokespecial 71, 3) := by decide +kernel
theorem dX0_byRoles_16 : decode cX0_byRoles 16 = .ok (.athrow, 1) := by decide +kernel
theorem dX0_byRoles_17 : decode cX0_byRoles 17 = .ok (.aload_n 0, 1) := by decide +kernel
theorem dX0_byRoles_18 : decode cX0_byRoles 18 = .ok (.iload_n 1, 1) := by decide +kernel
theorem dX0_byRoles_19 : decode cX0_byRoles 19 = .ok (.invokevirtual 159, 3) := by decide +kernel
theorem dX0_byRoles_22 : decode cX0_byRoles 22 = .ok (.ireturn, 1) := by decide +kernel
set_option maxRecDepth 20000 in
theorem ggX0_exceptions_X0_isUser : GoodIn wsX0_exceptions wsX0_isUser := goodIn_r _ [7] (by decide +kernel) (by decide +kernel)
set_option maxRecDepth 20000 in
theorem gX0_exceptions_X0_isUser : GoodIn wsX0_exceptions (va_wsS RX0 60 yX0_isUser wsX0_isUser) := goodIn_app (goodIn_of _ (by decide +kernel)) ggX0_exceptions_X0_isUser
set_option maxRecDepth 20000 in
theorem ggX0_exceptions_X0_joinedRoles : GoodIn wsX0_exceptions wsX0_joinedRoles := goodIn_r _ [11, 12, 13, 14, 15, 16, 6, 17, 3, 18, 19, 20, 21, 22, 23, 24, 25, 26, 27, 28, 29, 30, 31, 32, 33] (by decide +kernel) (by decide +kernel)
set_option maxRecDepth 20000 in
theorem gX0_exceptions_X0_joinedRoles : GoodIn wsX0_exceptions (wsV RX0 159 RX0 yX0_joinedRoles wsX0_joinedRoles) := goodIn_app (goodIn_of _ (by decide +kernel)) ggX0_exceptions_X0_joinedRoles
theorem dX0_exceptions_0 : decode cX0_exceptions 0 = .ok (.iload_n 1, 1) := by decide +kernel
theorem dX0_exceptions_1 : decode cX0_exceptions 1 = .ok (.invokestatic 60, 3) := by decide +kernel
theorem dX0_exceptions_4 : decode cX0_exceptions 4 = .ok (.ifCond .ne 13, 3) := by decide +kernel
theorem dX0_exceptions_7 : decode cX0_exceptions 7 = .ok (.new 67, 3) := by decide +kernel
theorem dX0_exceptions_10 : decode cX0_exceptions 10 = .ok (.dup, 1) := by decide +kernel
theorem dX0_exceptions_11 : decode cX0_exceptions 11 = .ok (.ldc 82, 2) := by decide +kernel
theorem dX0_exceptions_13 : decode cX0_exceptions 13 = .ok (.invokespecial 71, 3) := by decide +kernel
theorem dX0_exceptions_16 : decode cX0_exceptions 16 = .ok (.athrow, 1) := by decide +kernel
theorem dX0_exceptions_17 : decode cX0_exceptions 17 = .ok (.aload_n 0, 1) := by decide +kernel
theorem dX0_exceptions_18 : decode cX0_exceptions 18 = .ok (.getfield 9, 3) := by decide +kernel
theorem dX0_exceptions_21 : decode cX0_exceptions 21 = .ok (.iload_n 1, 1) := by decide +kernel
theorem dX0_exceptions_22 : decode cX0_exceptions 22 = .ok (.iaload, 1) := by decide +kernel
theorem dX0_exceptions_23 : decode cX0_exceptions 23 = .ok (.aload_n 0, 1) := by decide +kernel
theorem dX0_exceptions_24 : decode cX0_exceptions 24 = .ok (.iload_n 1, 1) := by decide +kernel
theorem dX0_exceptions_25 : decode cX0_exceptions 25 = .ok (.invokevirtual 159, 3) := by decide +kernel
theorem dX0_exceptions_28 : decode cX0_exceptions 28 = .ok (.iconst (-1), 1) := by decide +kernel
theorem dX0_exceptions_29 : decode cX0_exceptions 29 = .ok (.ixor, 1) := by decide +kernel
theorem dX0_exceptions_30 : decode cX0_exceptions 30 = .ok (.iand, 1) := by decide +kernel
theorem dX0_exceptions_31 : decode cX0_exceptions 31 = .ok (.ireturn, 1) := by decide +kernel
set_option maxRecDepth 20000 in
theorem ggX0_cost_X0_joinedRoles : GoodIn wsX0_cost wsX0_joinedRoles := goodIn_r _ [9, 3, 10, 11, 12, 13, 8, 14, 1, 22, 23, 24, 25, 26, 27, 28, 29, 30, 31, 32, 33, 34, 35, 36, 37] (by decide +kernel) (by decide +kernel)
set_option maxRecDepth 20000 in
theorem gX0_cost_X0_joinedRoles : GoodIn wsX0_cost (wsV RX0 159 RX0 yX0_joinedRoles wsX0_joinedRoles) := goodIn_app (goodIn_of _ (by decide +kernel)) ggX0_cost_X0_joinedRoles
set_option maxRecDepth 20000 in
theorem ggX0_cost_J6_bitCount_0f7a4 : GoodIn wsX0_cost wsJ6_bitCount_0f7a4 := goodIn_r _ [18, 19, 20, 21] (by decide +kernel) (by decide +kernel)
set_option maxRecDepth 20000 in
theorem gX0_cost_J6_bitCount_0f7a4 : GoodIn wsX0_cost (va_wsS RX0 92 yJ6_bitCount_0f7a4 wsJ6_bitCount_0f7a4) := goodIn_app (goodIn_of _ (by decide +kernel)) ggX0_cost_J6_bitCount_0f7a4
theorem dX0_cost_0 : decode cX0_cost 0 = .ok (.iconst 0, 1) := by decide +kernel
theorem dX0_cost_1 : decode cX0_cost 1 = .ok (.istore_n 1, 1) := by decide +kernel
theorem dX0_cost_2 : decode cX0_cost 2 = .ok (.iconst 0, 1) := by decide +kernel
theorem dX0_cost_3 : decode cX0_cost 3 = .ok (.istore_n 2, 1) := by decide +kernel
theorem dX0_cost_4 : decode cX0_cost 4 = .ok (.iload_n 2, 1) := by decide +kernel
theorem dX0_cost_5 : decode cX0_cost 5 = .ok (.bipush 8, 2) := by decide +kernel
theorem dX0_cost_7 : decode cX0_cost 7 = .ok (.if_icmp .ge 29, 3) := by decide +kernel
theorem dX0_cost_10 : decode cX0_cost 10 = .ok (.iload_n 1, 1) := by decide +kernel
theorem dX0_cost_11 : decode cX0_cost 11 = .ok (.aload_n 0, 1) := by decide +kernel
theorem dX0_cost_12 : decode cX0_cost 12 = .ok (.getfield 9, 3) := by decide +kernel
theorem dX0_cost_15 : decode cX0_cost 15 = .ok (.iload_n 2, 1) := by decide +kernel
theorem dX0_cost_16 : decode cX0_cost 16 = .ok (.iaload, 1) := by decide +kernel
theorem dX0_cost_17 : decode cX0_cost 17 = .ok (.aload_n 0, 1) := by decide +kernel
theorem dX0_cost_18 : decode cX0_cost 18 = .ok (.iload_n 2, 1) := by decide +kernel
theorem dX0_cost_19 : decode cX0_cost 19 = .ok (.invokevirtual 159, 3) := by decide +kernel
theorem dX0_cost_22 : decode cX0_cost 22 = .ok (.iconst (-1), 1) := by decide +kernel
theorem dX0_cost_23 : decode cX0_cost 23 = .ok (.ixor, 1) := by decide +kernel
theorem dX0_cost_24 : decode cX0_cost 24 = .ok (.iand, 1) := by decide +kernel
theorem dX0_cost_25 : decode cX0_cost 25 = .ok (.invokestatic 92, 3) := by decide +kernel
theorem dX0_cost_28 : decode cX0_cost 28 = .ok (.iadd, 1) := by decide +kernel
theorem dX0_cost_29 : decode cX0_cost 29 = .ok (.istore_n 1, 1) := by decide +kernel
theorem dX0_cost_30 : decode cX0_cost 30 = .ok (.iinc 2 1, 3) := by decide +kernel
theorem dX0_cost_33 : decode cX0_cost 33 = .ok (.goto (-29), 3) := by decide +kernel
theorem dX0_cost_36 : decode cX0_cost 36 = .ok (.aload_n 0, 1) := by decide +kernel
theorem dX0_cost_37 : decode cX0_cost 37 = .ok (.getfield 19, 3) := by decide +kernel
theorem dX0_cost_40 : decode cX0_cost 40 = .ok (.aload_n 0, 1) := by decide +kernel
theorem dX0_cost_41 : decode cX0_cost 41 = .ok (.getfield 38, 3) := by decide +kernel
theorem dX0_cost_44 : decode cX0_cost 44 = .ok (.imul, 1) := by decide +kernel
theorem dX0_cost_45 : decode cX0_cost 45 = .ok (.aload_n 0, 1) := by decide +kernel
theorem dX0_cost_46 : decode cX0_cost 46 = .ok (.getfield 23, 3) := by decide +kernel
theorem dX0_cost_49 : decode cX0_cost 49 = .ok (.iload_n 1, 1) := by decide +kernel
theorem dX0_cost_50 : decode cX0_cost 50 = .ok (.imul, 1) := by decide +kernel
theorem dX0_cost_51 : decode cX0_cost 51 = .ok (.iadd, 1) := by decide +kernel
theorem dX0_cost_52 : decode cX0_cost 52 = .ok (.ireturn, 1) := by decide +kernel
theorem dX0_isUser_0 : decode cX0_isUser 0 = .ok (.iload_n 0, 1) := by decide +kernel
theorem dX0_isUser_1 : decode cX0_isUser 1 = .ok (.ifCond .lt 13, 3) := by decide +kernel
theorem dX0_isUser_4 : decode cX0_isUser 4 = .ok (.iload_n 0, 1) := by decide +kernel
theorem dX0_isUser_5 : decode cX0_isUser 5 = .ok (.bipush 8, 2) := by decide +kernel
theorem dX0_isUser_7 : decode cX0_isUser 7 = .ok (.if_icmp .ge 7, 3) := by decide +kernel
theorem dX0_isUser_10 : decode cX0_isUser 10 = .ok (.iconst 1, 1) := by decide +kernel
theorem dX0_isUser_11 : decode cX0_isUser 11 = .ok (.goto 4, 3) := by decide +kernel
theorem dX0_isUser_14 : decode cX0_isUser 14 = .ok (.iconst 0, 1) := by decide +kernel
theorem dX0_isUser_15 : decode cX0_isUser 15 = .ok (.ireturn, 1) := by decide +kernel
theorem dX0_isPermission_0 : decode cX0_isPermission 0 = .ok (.iload_n 0, 1) := by decide +kernel
theorem dX0_isPermission_1 : decode cX0_isPermission 1 = .ok (.ifCond .lt 13, 3) := by decide +kernel
theorem dX0_isPermission_4 : decode cX0_isPermission 4 = .ok (.iload_n 0, 1) := by decide +kernel
theorem dX0_isPermission_5 : decode cX0_isPermission 5 = .ok (.bipush 12, 2) := by decide +kernel
theorem dX0_isPermission_7 : decode cX0_isPermission 7 = .ok (.if_icmp .ge 7, 3) := by decide +kernel
theorem dX0_isPermission_10 : decode cX0_isPermission 10 = .ok (.iconst 1, 1) := by decide +kernel
theorem dX0_isPermission_11 : decode cX0_isPermission 11 = .ok (.goto 4, 3) := by decide +kernel
theorem dX0_isPermission_14 : decode cX0_isPermission 14 = .ok (.iconst 0, 1) := by decide +kernel
theorem dX0_isPermission_15 : decode cX0_isPermission 15 = .ok (.ireturn, 1) := by decide +kernel
theorem dX0_isPermissionSet_0 : decode cX0_isPermissionSet 0 = .ok (.iload_n 0, 1) := by decide +kernel
theorem dX0_isPermissionSet_1 : decode cX0_isPermissionSet 1 = .ok (.ifCond .lt 14, 3) := by decide +kernel
theorem dX0_isPermissionSet_4 : decode cX0_isPermissionSet 4 = .ok (.iload_n 0, 1) := by decide +kernel
theorem dX0_isPermissionSet_5 : decode cX0_isPermissionSet 5 = .ok (.sipush 4095, 3) := by decide +kernel
theorem dX0_isPermissionSet_8 : decode cX0_isPermissionSet 8 = .ok (.if_icmp .gt 7, 3) := by decide +kernel
theorem dX0_isPermissionSet_11 : decode cX0_isPermissionSet 11 = .ok (.iconst 1, 1) := by decide +kernel
theorem dX0_isPermissionSet_12 : decode cX0_isPermissionSet 12 = .ok (.goto 4, 3) := by decide +kernel
theorem dX0_isPermissionSet_15 : decode cX0_isPermissionSet 15 = .ok (.iconst 0, 1) := by decide +kernel
theorem dX0_isPermissionSet_16 : decode cX0_isPermissionSet 16 = .ok (.ireturn, 1) := by decide +kernel
theorem dX0_isCost_0 : decode cX0_isCost 0 = .ok (.iload_n 0, 1) := by decide +kernel
theorem dX0_isCost_1 : decode cX0_isCost 1 = .ok (.ifCond .lt 13, 3) := by decide +kernel
theorem dX0_isCost_4 : decode cX0_isCost 4 = .ok (.iload_n 0, 1) := by decide +kernel
theorem dX0_isCost_5 : decode cX0_isCost 5 = .ok (.bipush 100, 2) := by decide +kernel
theorem dX0_isCost_7 : decode cX0_isCost 7 = .ok (.if_icmp .gt 7, 3) := by decide +kernel
theorem dX0_isCost_10 : decode cX0_isCost 10 = .ok (.iconst 1, 1) := by decide +kernel
theorem dX0_isCost_11 : decode cX0_isCost 11 = .ok (.goto 4, 3) := by decide +kernel
theorem dX0_isCost_14 : decode cX0_isCost 14 = .ok (.iconst 0, 1) := by decide +kernel
theorem dX0_isCost_15 : decode cX0_isCost 15 = .ok (.ireturn, 1) := by decide +kernel
theorem dX0_has_0 : decode cX0_has 0 = .ok (.iload_n 0, 1) := by decide +kernel
theorem dX0_has_1 : decode cX0_has 1 = .ok (.iload_n 1, 1) := by decide +kernel
theorem dX0_has_2 : decode cX0_has 2 = .ok (.ishr, 1) := by decide +kernel
theorem dX0_has_3 : decode cX0_has 3 = .ok (.iconst 1, 1) := by decide +kernel
theorem dX0_has_4 : decode cX0_has 4 = .ok (.iand, 1) := by decide +kernel
theorem dX0_has_5 : decode cX0_has 5 = .ok (.ifCond .eq 7, 3) := by decide +kernel
theorem dX0_has_8 : decode cX0_has 8 = .ok (.iconst 1, 1) := by decide +kernel
theorem dX0_has_9 : decode cX0_has 9 = .ok (.goto 4, 3) := by decide +kernel
theorem dX0_has_12 : decode cX0_has 12 = .ok (.iconst 0, 1) := by decide +kernel
theorem dX0_has_13 : decode cX0_has 13 = .ok (.ireturn, 1) := by decide +kernel
theorem dX0_grantIndex_0 : decode cX0_grantIndex 0 = .ok (.iload_n 0, 1) := by decide +kernel
theorem dX0_grantIndex_1 : decode cX0_grantIndex 1 = .ok (.bipush 12, 2) := by decide +kernel
theorem dX0_grantIndex_3 : decode cX0_grantIndex 3 = .ok (.imul, 1) := by decide +kernel
theorem dX0_grantIndex_4 : decode cX0_grantIndex 4 = .ok (.iload_n 1, 1) := by decide +kernel
theorem dX0_grantIndex_5 : decode cX0_grantIndex 5 = .ok (.iadd, 1) := by decide +kernel
theorem dX0_grantIndex_6 : decode cX0_grantIndex 6 = .ok (.ireturn, 1) := by decide +kernel
theorem dX0_insertInOrder_0 : decode cX0_insertInOrder 0 = .ok (.iload_n 1, 1) := by decide +kernel
theorem dX0_insertInOrder_1 : decode cX0_insertInOrder 1 = .ok (.ifCond .lt 9, 3) := by decide +kernel
theorem dX0_insertInOrder_4 : decode cX0_insertInOrder 4 = .ok (.iload_n 1, 1) := by decide +kernel
theorem dX0_insertInOrder_5 : decode cX0_insertInOrder 5 = .ok (.aload_n 0, 1) := by decide +kernel
theorem dX0_insertInOrder_6 : decode cX0_insertInOrder 6 = .ok (.arraylength, 1) := by decide +kernel
theorem dX0_insertInOrder_7 : decode cX0_insertInOrder 7 = .ok (.if_icmp .lt 5, 3) := by decide +kernel
theorem dX0_insertInOrder_10 : decode cX0_insertInOrder 10 = .ok (.iload_n 1, 1) := by decide +kernel
theorem dX0_insertInOrder_11 : decode cX0_insertInOrder 11 = .ok (.ireturn, 1) := by decide +kernel
theorem dX0_insertInOrder_12 : decode cX0_insertInOrder 12 = .ok (.iload_n 1, 1) := by decide +kernel
theorem dX0_insertInOrder_13 : decode cX0_insertInOrder 13 = .ok (.istore_n 3, 1) := by decide +kernel
theorem dX0_insertInOrder_14 : decode cX0_insertInOrder 14 = .ok (.iload_n 3, 1) := by decide +kernel
theorem dX0_insertInOrder_15 : decode cX0_insertInOrder 15 = .ok (.ifCond .le 26, 3) := by decide +kernel
theorem dX0_insertInOrder_18 : decode cX0_insertInOrder 18 = .ok (.aload_n 0, 1) := by decide +kernel
theorem dX0_insertInOrder_19 : decode cX0_insertInOrder 19 = .ok (.iload_n 3, 1) := by decide +kernel
theorem dX0_insertInOrder_20 : decode cX0_insertInOrder 20 = .ok (.iconst 1, 1) := by decide +kernel
theorem dX0_insertInOrder_21 : decode cX0_insertInOrder 21 = .ok (.isub, 1) := by decide +kernel
theorem dX0_insertInOrder_22 : decode cX0_insertInOrder 22 = .ok (.iaload, 1) := by decide +kernel
theorem dX0_insertInOrder_23 : decode cX0_insertInOrder 23 = .ok (.iload_n 2, 1) := by decide +kernel
theorem dX0_insertInOrder_24 : decode cX0_insertInOrder 24 = .ok (.if_icmp .le 17, 3) := by decide +kernel
theorem dX0_insertInOrder_27 : decode cX0_insertInOrder 27 = .ok (.aload_n 0, 1) := by decide +kernel
theorem dX0_insertInOrder_28 : decode cX0_insertInOrder 28 = .ok (.iload_n 3, 1) := by decide +kernel
theorem dX0_insertInOrder_29 : decode cX0_insertInOrder 29 = .ok (.aload_n 0, 1) := by decide +kernel
theorem dX0_insertInOrder_30 : decode cX0_insertInOrder 30 = .ok (.iload_n 3, 1) := by decide +kernel
theorem dX0_insertInOrder_31 : decode cX0_insertInOrder 31 = .ok (.iconst 1, 1) := by decide +kernel
theorem dX0_insertInOrder_32 : decode cX0_insertInOrder 32 = .ok (.isub, 1) := by decide +kernel
theorem dX0_insertInOrder_33 : decode cX0_insertInOrder 33 = .ok (.iaload, 1) := by decide +kernel
theorem dX0_insertInOrder_34 : decode cX0_insertInOrder 34 = .ok (.iastore, 1) := by decide +kernel
theorem dX0_insertInOrder_35 : decode cX0_insertInOrder 35 = .ok (.iinc 3 (-1), 3) := by decide +kernel
theorem dX0_insertInOrder_38 : decode cX0_insertInOrder 38 = .ok (.goto (-24), 3) := by decide +kernel
theorem dX0_insertInOrder_41 : decode cX0_insertInOrder 41 = .ok (.aload_n 0, 1) := by decide +kernel
theorem dX0_insertInOrder_42 : decode cX0_insertInOrder 42 = .ok (.iload_n 3, 1) := by decide +kernel
theorem dX0_insertInOrder_43 : decode cX0_insertInOrder 43 = .ok (.iload_n 2, 1) := by decide +kernel
theorem dX0_insertInOrder_44 : decode cX0_insertInOrder 44 = .ok (.iastore, 1) := by decide +kernel
theorem dX0_insertInOrder_45 : decode cX0_insertInOrder 45 = .ok (.iload_n 1, 1) := by decide +kernel
theorem dX0_insertInOrder_46 : decode cX0_insertInOrder 46 = .ok (.iconst 1, 1) := by decide +kernel
theorem dX0_insertInOrder_47 : decode cX0_insertInOrder 47 = .ok (.iadd, 1) := by decide +kernel
theorem dX0_insertInOrder_48 : decode cX0_insertInOrder 48 = .ok (.ireturn, 1) := by decide +kernel
theorem dX0_holds_0 : decode cX0_holds 0 = .ok (.aload_n 0, 1) := by decide +kernel
theorem dX0_holds_1 : decode cX0_holds 1 = .ok (.getfield 9, 3) := by decide +kernel
theorem dX0_holds_4 : decode cX0_holds 4 = .ok (.iload_n 1, 1) := by decide +kernel
theorem dX0_holds_5 : decode cX0_holds 5 = .ok (.iaload, 1) := by decide +kernel
theorem dX0_holds_6 : decode cX0_holds 6 = .ok (.iload_n 2, 1) := by decide +kernel
theorem dX0_holds_7 : decode cX0_holds 7 = .ok (.iand, 1) := by decide +kernel
theorem dX0_holds_8 : decode cX0_holds 8 = .ok (.iload_n 2, 1) := by decide +kernel
theorem dX0_holds_9 : decode cX0_holds 9 = .ok (.if_icmp .ne 7, 3) := by decide +kernel
theorem dX0_holds_12 : decode cX0_holds 12 = .ok (.iconst 1, 1) := by decide +kernel
theorem dX0_holds_13 : decode cX0_holds 13 = .ok (.goto 4, 3) := by decide +kernel
theorem dX0_holds_16 : decode cX0_holds 16 = .ok (.iconst 0, 1) := by decide +kernel
theorem dX0_holds_17 : decode cX0_holds 17 = .ok (.ireturn, 1) := by decide +kernel
set_option maxRecDepth 20000 in
theorem ggX0_holdersOf_X0_holds : GoodIn wsX0_holdersOf wsX0_holds := goodIn_r _ [5, 6, 7, 8, 9, 10, 11, 12, 13, 14, 15, 16, 17, 18, 19, 20, 21, 22] (by decide +kernel) (by decide +kernel)
set_option maxRecDepth 20000 in
theorem gX0_holdersOf_X0_holds : GoodIn wsX0_holdersOf (wsV RX0 156 RX0 yX0_holds wsX0_holds) := goodIn_app (goodIn_of _ (by decide +kernel)) ggX0_holdersOf_X0_holds
theorem dX0_holdersOf_0 : decode cX0_holdersOf 0 = .ok (.iconst 0, 1) := by decide +kernel
theorem dX0_holdersOf_1 : decode cX0_holdersOf 1 = .ok (.istore_n 2, 1) := by decide +kernel
theorem dX0_holdersOf_2 : decode cX0_holdersOf 2 = .ok (.iconst 0, 1) := by decide +kernel
theorem dX0_holdersOf_3 : decode cX0_holdersOf 3 = .ok (.istore_n 3, 1) := by decide +kernel
theorem dX0_holdersOf_4 : decode cX0_holdersOf 4 = .ok (.iload_n 3, 1) := by decide +kernel
theorem dX0_holdersOf_5 : decode cX0_holdersOf 5 = .ok (.bipush 8, 2) := by decide +kernel
theorem dX0_holdersOf_7 : decode cX0_holdersOf 7 = .ok (.if_icmp .ge 24, 3) := by decide +kernel
theorem dX0_holdersOf_10 : decode cX0_holdersOf 10 = .ok (.aload_n 0, 1) := by decide +kernel
theorem dX0_holdersOf_11 : decode cX0_holdersOf 11 = .ok (.iload_n 3, 1) := by decide +kernel
theorem dX0_holdersOf_12 : decode cX0_holdersOf 12 = .ok (.iload_n 1, 1) := by decide +kernel
theorem dX0_holdersOf_13 : decode cX0_holdersOf 13 = .ok (.invokevirtual 156, 3) := by decide +kernel
theorem dX0_holdersOf_16 : decode cX0_holdersOf 16 = .ok (.ifCond .eq 9, 3) := by decide +kernel
theorem dX0_holdersOf_19 : decode cX0_holdersOf 19 = .ok (.iload_n 2, 1) := by decide +kernel
theorem dX0_holdersOf_20 : decode cX0_holdersOf 20 = .ok (.iconst 1, 1) := by decide +kernel
theorem dX0_holdersOf_21 : decode cX0_holdersOf 21 = .ok (.iload_n 3, 1) := by decide +kernel
theorem dX0_holdersOf_22 : decode cX0_holdersOf 22 = .ok (.ishl, 1) := by decide +kernel
theorem dX0_holdersOf_23 : decode cX0_holdersOf 23 = .ok (.ior, 1) := by decide +kernel
theorem dX0_holdersOf_24 : decode cX0_holdersOf 24 = .ok (.istore_n 2, 1) := by decide +kernel
theorem dX0_holdersOf_25 : decode cX0_holdersOf 25 = .ok (.iinc 3 1, 3) := by decide +kernel
theorem dX0_holdersOf_28 : decode cX0_holdersOf 28 = .ok (.goto (-24), 3) := by decide +kernel
theorem dX0_holdersOf_31 : decode cX0_holdersOf 31 = .ok (.iload_n 2, 1) := by decide +kernel
theorem dX0_holdersOf_32 : decode cX0_holdersOf 32 = .ok (.ireturn, 1) := by decide +kernel
set_option maxRecDepth 20000 in
theorem ggX0_sharedBy_X0_has : GoodIn wsX0_sharedBy wsX0_has := goodIn_r _ [5] (by decide +kernel) (by decide +kernel)
set_option maxRecDepth 20000 in
theorem gX0_sharedBy_X0_has : GoodIn wsX0_sharedBy (va_wsS RX0 74 yX0_has wsX0_has) := goodIn_app (goodIn_of _ (by decide +kernel)) ggX0_sharedBy_X0_has
theorem dX0_sharedBy_0 : decode cX0_sharedBy 0 = .ok (.sipush 4095, 3) := by decide +kernel
theorem dX0_sharedBy_3 : decode cX0_sharedBy 3 = .ok (.istore_n 2, 1) := by decide +kernel
theorem dX0_sharedBy_4 : decode cX0_sharedBy 4 = .ok (.iconst 0, 1) := by decide +kernel
theorem dX0_sharedBy_5 : decode cX0_sharedBy 5 = .ok (.istore_n 3, 1) := by decide +kernel
theorem dX0_sharedBy_6 : decode cX0_sharedBy 6 = .ok (.iload_n 3, 1) := by decide +kernel
theorem dX0_sharedBy_7 : decode cX0_sharedBy 7 = .ok (.bipush 8, 2) := by decide +kernel
theorem dX0_sharedBy_9 : decode cX0_sharedBy 9 = .ok (.if_icmp .ge 26, 3) := by decide +kernel
theorem dX0_sharedBy_12 : decode cX0_sharedBy 12 = .ok (.iload_n 1, 1) := by decide +kernel
theorem dX0_sharedBy_13 : decode cX0_sharedBy 13 = .ok (.iload_n 3, 1) := by decide +kernel
theorem dX0_sharedBy_14 : decode cX0_sharedBy 14 = .ok (.invokestatic 74, 3) := by decide +kernel
theorem dX0_sharedBy_17 : decode cX0_sharedBy 17 = .ok (.ifCond .eq 12, 3) := by decide +kernel
theorem dX0_sharedBy_20 : decode cX0_sharedBy 20 = .ok (.iload_n 2, 1) := by decide +kernel
theorem dX0_sharedBy_21 : decode cX0_sharedBy 21 = .ok (.aload_n 0, 1) := by decide +kernel
theorem dX0_sharedBy_22 : decode cX0_sharedBy 22 = .ok (.getfield 9, 3) := by decide +kernel
theorem dX0_sharedBy_25 : decode cX0_sharedBy 25 = .ok (.iload_n 3, 1) := by decide +kernel
theorem dX0_sharedBy_26 : decode cX0_sharedBy 26 = .ok (.iaload, 1) := by decide +kernel
theorem dX0_sharedBy_27 : decode cX0_sharedBy 27 = .ok (.iand, 1) := by decide +kernel
theorem dX0_sharedBy_28 : decode cX0_sharedBy 28 = .ok (.istore_n 2, 1) := by decide +kernel
theorem dX0_sharedBy_29 : decode cX0_sharedBy 29 = .ok (.iinc 3 1, 3) := by decide +kernel
theorem dX0_sharedBy_32 : decode cX0_sharedBy 32 = .ok (.goto (-26), 3) := by decide +kernel
theorem dX0_sharedBy_35 : decode cX0_sharedBy 35 = .ok (.iload_n 2, 1) := by decide +kernel
theorem dX0_sharedBy_36 : decode cX0_sharedBy 36 = .ok (.ireturn, 1) := by decide +kernel
set_option maxRecDepth 20000 in
theorem ggX0_isProper_X0_has : GoodIn wsX0_isProper wsX0_has := goodIn_r _ [5] (by decide +kernel) (by decide +kernel)
set_option maxRecDepth 20000 in
theorem gX0_isProper_X0_has : GoodIn wsX0_isProper (va_wsS RX0 74 yX0_has wsX0_has) := goodIn_app (goodIn_of _ (by decide +kernel)) ggX0_isProper_X0_has
theorem dX0_isProper_0 : decode cX0_isProper 0 = .ok (.iconst 0, 1) := by decide +kernel
theorem dX0_isProper_1 : decode cX0_isProper 1 = .ok (.istore_n 2, 1) := by decide +kernel
theorem dX0_isProper_2 : decode cX0_isProper 2 = .ok (.iload_n 2, 1) := by decide +kernel
theorem dX0_isProper_3 : decode cX0_isProper 3 = .ok (.bipush 12, 2) := by decide +kernel
theorem dX0_isProper_5 : decode cX0_isProper 5 = .ok (.if_icmp .ge 30, 3) := by decide +kernel
theorem dX0_isProper_8 : decode cX0_isProper 8 = .ok (.iload_n 1, 1) := by decide +kernel
theorem dX0_isProper_9 : decode cX0_isProper 9 = .ok (.iload_n 2, 1) := by decide +kernel
theorem dX0_isProper_10 : decode cX0_isProper 10 = .ok (.invokestatic 74, 3) := by decide +kernel
theorem dX0_isProper_13 : decode cX0_isProper 13 = .ok (.ifCond .eq 16, 3) := by decide +kernel
theorem dX0_isProper_16 : decode cX0_isProper 16 = .ok (.aload_n 0, 1) := by decide +kernel
theorem dX0_isProper_17 : decode cX0_isProper 17 = .ok (.getfield 16, 3) := by decide +kernel
theorem dX0_isProper_20 : decode cX0_isProper 20 = .ok (.iload_n 2, 1) := by decide +kernel
theorem dX0_isProper_21 : decode cX0_isProper 21 = .ok (.iaload, 1) := by decide +kernel
theorem dX0_isProper_22 : decode cX0_isProper 22 = .ok (.iload_n 1, 1) := by decide +kernel
theorem dX0_isProper_23 : decode cX0_isProper 23 = .ok (.iand, 1) := by decide +kernel
theorem dX0_isProper_24 : decode cX0_isProper 24 = .ok (.ifCond .eq 5, 3) := by decide +kernel
theorem dX0_isProper_27 : decode cX0_isProper 27 = .ok (.iconst 0, 1) := by decide +kernel
theorem dX0_isProper_28 : decode cX0_isProper 28 = .ok (.ireturn, 1) := by decide +kernel
theorem dX0_isProper_29 : decode cX0_isProper 29 = .ok (.iinc 2 1, 3) := by decide +kernel
theorem dX0_isProper_32 : decode cX0_isProper 32 = .ok (.goto (-30), 3) := by decide +kernel
theorem dX0_isProper_35 : decode cX0_isProper 35 = .ok (.iconst 1, 1) := by decide +kernel
theorem dX0_isProper_36 : decode cX0_isProper 36 = .ok (.ireturn, 1) := by decide +kernel
set_option maxRecDepth 20000 in
theorem ggX0_lapsingIn_X0_grantIndex : GoodIn wsX0_lapsingIn wsX0_grantIndex := goodIn_r _ [7] (by decide +kernel) (by decide +kernel)
set_option maxRecDepth 20000 in
theorem gX0_lapsingIn_X0_grantIndex : GoodIn wsX0_lapsingIn (va_wsS RX0 78 yX0_grantIndex wsX0_grantIndex) := goodIn_app (goodIn_of _ (by decide +kernel)) ggX0_lapsingIn_X0_grantIndex
set_option maxRecDepth 20000 in
theorem ggX0_lapsingIn_X0_has : GoodIn wsX0_lapsingIn wsX0_has := goodIn_r _ [10] (by decide +kernel) (by decide +kernel)
set_option maxRecDepth 20000 in
theorem gX0_lapsingIn_X0_has : GoodIn wsX0_lapsingIn (va_wsS RX0 74 yX0_has wsX0_has) := goodIn_app (goodIn_of _ (by decide +kernel)) ggX0_lapsingIn_X0_has
theorem dX0_lapsingIn_0 : decode cX0_lapsingIn 0 = .ok (.iconst 0, 1) := by decide +kernel
theorem dX0_lapsingIn_1 : decode cX0_lapsingIn 1 = .ok (.istore_n 3, 1) := by decide +kernel
theorem dX0_lapsingIn_2 : decode cX0_lapsingIn 2 = .ok (.iconst 0, 1) := by decide +kernel
theorem dX0_lapsingIn_3 : decode cX0_lapsingIn 3 = .ok (.istore 4, 2) := by decide +kernel
theorem dX0_lapsingIn_5 : decode cX0_lapsingIn 5 = .ok (.iload 4, 2) := by decide +kernel
theorem dX0_lapsingIn_7 : decode cX0_lapsingIn 7 = .ok (.bipush 12, 2) := by decide +kernel
theorem dX0_lapsingIn_9 : decode cX0_lapsingIn 9 = .ok (.if_icmp .ge 54, 3) := by decide +kernel
theorem dX0_lapsingIn_12 : decode cX0_lapsingIn 12 = .ok (.iload_n 1, 1) := by decide +kernel
theorem dX0_lapsingIn_13 : decode cX0_lapsingIn 13 = .ok (.aload_n 0, 1) := by decide +kernel
theorem dX0_lapsingIn_14 : decode cX0_lapsingIn 14 = .ok (.getfield 13, 3) := by decide +kernel
theorem dX0_lapsingIn_17 : decode cX0_lapsingIn 17 = .ok (.iload_n 2, 1) := by decide +kernel
theorem dX0_lapsingIn_18 : decode cX0_lapsingIn 18 = .ok (.iload 4, 2) := by decide +kernel
theorem dX0_lapsingIn_20 : decode cX0_lapsingIn 20 = .ok (.invokestatic 78, 3) := by decide +kernel
theorem dX0_lapsingIn_23 : decode cX0_lapsingIn 23 = .ok (.iaload, 1) := by decide +kernel
theorem dX0_lapsingIn_24 : decode cX0_lapsingIn 24 = .ok (.isub, 1) := by decide +kernel
theorem dX0_lapsingIn_25 : decode cX0_lapsingIn 25 = .ok (.istore 5, 2) := by decide +kernel
theorem dX0_lapsingIn_27 : decode cX0_lapsingIn 27 = .ok (.aload_n 0, 1) := by decide +kernel
theorem dX0_lapsingIn_28 : decode cX0_lapsingIn 28 = .ok (.getfield 9, 3) := by decide +kernel
theorem dX0_lapsingIn_31 : decode cX0_lapsingIn 31 = .ok (.iload_n 2, 1) := by decide +kernel
theorem dX0_lapsingIn_32 : decode cX0_lapsingIn 32 = .ok (.iaload, 1) := by decide +kernel
theorem dX0_lapsingIn_33 : decode cX0_lapsingIn 33 = .ok (.iload 4, 2) := by decide +kernel
theorem dX0_lapsingIn_35 : decode cX0_lapsingIn 35 = .ok (.invokestatic 74, 3) := by decide +kernel
theorem dX0_lapsingIn_38 : decode cX0_lapsingIn 38 = .ok (.ifCond .eq 19, 3) := by decide +kernel
theorem dX0_lapsingIn_41 : decode cX0_lapsingIn 41 = .ok (.iload 5, 2) := by decide +kernel
theorem dX0_lapsingIn_43 : decode cX0_lapsingIn 43 = .ok (.aload_n 0, 1) := by decide +kernel
theorem dX0_lapsingIn_44 : decode cX0_lapsingIn 44 = .ok (.getfield 29, 3) := by decide +kernel
theorem dX0_lapsingIn_47 : decode cX0_lapsingIn 47 = .ok (.if_icmp .lt 10, 3) := by decide +kernel
theorem dX0_lapsingIn_50 : decode cX0_lapsingIn 50 = .ok (.iload_n 3, 1) := by decide +kernel
theorem dX0_lapsingIn_51 : decode cX0_lapsingIn 51 = .ok (.iconst 1, 1) := by decide +kernel
theorem dX0_lapsingIn_52 : decode cX0_lapsingIn 52 = .ok (.iload 4, 2) := by decide +kernel
theorem dX0_lapsingIn_54 : decode cX0_lapsingIn 54 = .ok (.ishl, 1) := by decide +kernel
theorem dX0_lapsingIn_55 : decode cX0_lapsingIn 55 = .ok (.ior, 1) := by decide +kernel
theorem dX0_lapsingIn_56 : decode cX0_lapsingIn 56 = .ok (.istore_n 3, 1) := by decide +kernel
theorem dX0_lapsingIn_57 : decode cX0_lapsingIn 57 = .ok (.iinc 4 1, 3) := by decide +kernel
theorem dX0_lapsingIn_60 : decode cX0_lapsingIn 60 = .ok (.goto (-55), 3) := by decide +kernel
theorem dX0_lapsingIn_63 : decode cX0_lapsingIn 63 = .ok (.iload_n 3, 1) := by decide +kernel
theorem dX0_lapsingIn_64 : decode cX0_lapsingIn 64 = .ok (.ireturn, 1) := by decide +kernel
set_option maxRecDepth 20000 in
theorem ggX0_joinedRoles_X0_holds : GoodIn wsX0_joinedRoles wsX0_holds := goodIn_r _ [7, 8, 9, 10, 11, 12, 13, 14, 15, 16, 17, 18, 19, 20, 21, 22, 23, 24] (by decide +kernel) (by decide +kernel)
set_option maxRecDepth 20000 in
theorem gX0_joinedRoles_X0_holds : GoodIn wsX0_joinedRoles (wsV RX0 156 RX0 yX0_holds wsX0_holds) := goodIn_app (goodIn_of _ (by decide +kernel)) ggX0_joinedRoles_X0_holds
theorem dX0_joinedRoles_0 : decode cX0_joinedRoles 0 = .ok (.iconst 0, 1) := by decide +kernel
theorem dX0_joinedRoles_1 : decode cX0_joinedRoles 1 = .ok (.istore_n 2, 1) := by decide +kernel
theorem dX0_joinedRoles_2 : decode cX0_joinedRoles 2 = .ok (.iconst 0, 1) := by decide +kernel
theorem dX0_joinedRoles_3 : decode cX0_joinedRoles 3 = .ok (.istore_n 3, 1) := by decide +kernel
theorem dX0_joinedRoles_4 : decode cX0_joinedRoles 4 = .ok (.iload_n 3, 1) := by decide +kernel
theorem dX0_joinedRoles_5 : decode cX0_joinedRoles 5 = .ok (.aload_n 0, 1) := by decide +kernel
theorem dX0_joinedRoles_6 : decode cX0_joinedRoles 6 = .ok (.getfield 38, 3) := by decide +kernel
theorem dX0_joinedRoles_9 : decode cX0_joinedRoles 9 = .ok (.if_icmp .ge 32, 3) := by decide +kernel
theorem dX0_joinedRoles_12 : decode cX0_joinedRoles 12 = .ok (.aload_n 0, 1) := by decide +kernel
theorem dX0_joinedRoles_13 : decode cX0_joinedRoles 13 = .ok (.iload_n 1, 1) := by decide +kernel
theorem dX0_joinedRoles_14 : decode cX0_joinedRoles 14 = .ok (.aload_n 0, 1) := by decide +kernel
theorem dX0_joinedRoles_15 : decode cX0_joinedRoles 15 = .ok (.getfield 35, 3) := by decide +kernel
theorem dX0_joinedRoles_18 : decode cX0_joinedRoles 18 = .ok (.iload_n 3, 1) := by decide +kernel
theorem dX0_joinedRoles_19 : decode cX0_joinedRoles 19 = .ok (.iaload, 1) := by decide +kernel
theorem dX0_joinedRoles_20 : decode cX0_joinedRoles 20 = .ok (.invokevirtual 156, 3) := by decide +kernel
theorem dX0_joinedRoles_23 : decode cX0_joinedRoles 23 = .ok (.ifCond .eq 12, 3) := by decide +kernel
theorem dX0_joinedRoles_26 : decode cX0_joinedRoles 26 = .ok (.iload_n 2, 1) := by decide +kernel
theorem dX0_joinedRoles_27 : decode cX0_joinedRoles 27 = .ok (.aload_n 0, 1) := by decide +kernel
theorem dX0_joinedRoles_28 : decode cX0_joinedRoles 28 = .ok (.getfield 35, 3) := by decide +kernel
theorem dX0_joinedRoles_31 : decode cX0_joinedRoles 31 = .ok (.iload_n 3, 1) := by decide +kernel
theorem dX0_joinedRoles_32 : decode cX0_joinedRoles 32 = .ok (.iaload, 1) := by decide +kernel
theorem dX0_joinedRoles_33 : decode cX0_joinedRoles 33 = .ok (.ior, 1) := by decide +kernel
theorem dX0_joinedRoles_34 : decode cX0_joinedRoles 34 = .ok (.istore_n 2, 1) := by decide +kernel
theorem dX0_joinedRoles_35 : decode cX0_joinedRoles 35 = .ok (.iinc 3 1, 3) := by decide +kernel
theorem dX0_joinedRoles_38 : decode cX0_joinedRoles 38 = .ok (.goto (-34), 3) := by decide +kernel
theorem dX0_joinedRoles_41 : decode cX0_joinedRoles 41 = .ok (.iload_n 2, 1) := by decide +kernel
theorem dX0_joinedRoles_42 : decode cX0_joinedRoles 42 = .ok (.ireturn, 1) := by decide +kernel
set_option maxRecDepth 20000 in
theorem ggX0_findCandidates_X0_sharedBy : GoodIn wsX0_findCandidates wsX0_sharedBy := goodIn_r _ [8, 9, 10, 11, 7, 12, 54, 55, 56, 57, 58, 59, 60, 61, 62, 63, 64, 65, 66, 67, 68, 69] (by decide +kernel) (by decide +kernel)
set_option maxRecDepth 20000 in
theorem gX0_findCandidates_X0_sharedBy : GoodIn wsX0_findCandidates (wsV RX0 165 RX0 yX0_sharedBy wsX0_sharedBy) := goodIn_app (goodIn_of _ (by decide +kernel)) ggX0_findCandidates_X0_sharedBy
set_option maxRecDepth 20000 in
theorem ggX0_findCandidates_X0_holdersOf : GoodIn wsX0_findCandidates wsX0_holdersOf := goodIn_r _ [16, 17, 18, 19, 7, 20, 9, 54, 55, 56, 57, 58, 59, 60, 61, 62, 63, 64, 65, 66, 67, 68, 69] (by decide +kernel) (by decide +kernel)
set_option maxRecDepth 20000 in
theorem gX0_findCandidates_X0_holdersOf : GoodIn wsX0_findCandidates (wsV RX0 149 RX0 yX0_holdersOf wsX0_holdersOf) := goodIn_app (goodIn_of _ (by decide +kernel)) ggX0_findCandidates_X0_holdersOf
set_option maxRecDepth 20000 in
theorem ggX0_findCandidates_J6_bitCount_0f7a4 : GoodIn wsX0_findCandidates wsJ6_bitCount_0f7a4 := goodIn_r _ [24, 25, 26, 27] (by decide +kernel) (by decide +kernel)
set_option maxRecDepth 20000 in
theorem gX0_findCandidates_J6_bitCount_0f7a4 : GoodIn wsX0_findCandidates (va_wsS RX0 92 yJ6_bitCount_0f7a4 wsJ6_bitCount_0f7a4) := goodIn_app (goodIn_of _ (by decide +kernel)) ggX0_findCandidates_J6_bitCount_0f7a4
set_option maxRecDepth 20000 in
theorem ggX0_findCandidates_X0_isProper : GoodIn wsX0_findCandidates wsX0_isProper := goodIn_r _ [31, 32, 10, 11, 7, 12, 54, 55, 56, 57, 58, 59, 60, 61, 62, 63, 64, 65, 66, 67, 68, 69] (by decide +kernel) (by decide +kernel)
set_option maxRecDepth 20000 in
theorem gX0_findCandidates_X0_isProper : GoodIn wsX0_findCandidates (wsV RX0 162 RX0 yX0_isProper wsX0_isProper) := goodIn_app (goodIn_of _ (by decide +kernel)) ggX0_findCandidates_X0_isProper
set_option maxRecDepth 20000 in
theorem ggX0_findCandidates_X0_insertInOrder : GoodIn wsX0_findCandidates wsX0_insertInOrder := goodIn_r _ [35] (by decide +kernel) (by decide +kernel)
set_option maxRecDepth 20000 in
theorem gX0_findCandidates_X0_insertInOrder : GoodIn wsX0_findCandidates (va_wsS RX0 128 yX0_insertInOrder wsX0_insertInOrder) := goodIn_app (goodIn_of _ (by decide +kernel)) ggX0_findCandidates_X0_insertInOrder
set_option maxRecDepth 20000 in
theorem ggX0_findCandidates_X0_findCover : GoodIn wsX0_findCandidates wsX0_findCover := goodIn_r _ [39, 3, 40, 41, 17, 18, 19, 7, 20, 9, 42, 43, 44, 45, 46, 47, 54, 55, 56, 57, 58, 59, 60, 61, 62, 63, 64, 65, 66, 67, 68, 69] (by decide +kernel) (by decide +kernel)
set_option maxRecDepth 20000 in
theorem gX0_findCandidates_X0_findCover : GoodIn wsX0_findCandidates (wsV RX0 168 RX0 yX0_findCover wsX0_findCover) := goodIn_app (goodIn_of _ (by decide +kernel)) ggX0_findCandidates_X0_findCover
set_option maxRecDepth 20000 in
theorem ggX0_findCandidates_X0_findAllLeft : GoodIn wsX0_findCandidates wsX0_findAllLeft := goodIn_r _ [51, 9, 52, 53, 42, 43, 7, 44, 45, 46, 47, 54, 55, 56, 57, 58, 59, 60, 61, 62, 63, 64, 65, 66, 67, 68, 69] (by decide +kernel) (by decide +kernel)
set_option maxRecDepth 20000 in
theorem gX0_findCandidates_X0_findAllLeft : GoodIn wsX0_findCandidates (wsV RX0 172 RX0 yX0_findAllLeft wsX0_findAllLeft) := goodIn_app (goodIn_of _ (by decide +kernel)) ggX0_findCandidates_X0_findAllLeft
theorem dX0_findCandidates_0 : decode cX0_findCandidates 0 = .ok (.aload_n 0, 1) := by decide +kernel
theorem dX0_findCandidates_1 : decode cX0_findCandidates 1 = .ok (.iconst 0, 1) := by decide +kernel
theorem dX0_findCandidates_2 : decode cX0_findCandidates 2 = .ok (.putfield 44, 3) := by decide +kernel
theorem dX0_findCandidates_5 : decode cX0_findCandidates 5 = .ok (.iconst 1, 1) := by decide +kernel
theorem dX0_findCandidates_6 : decode cX0_findCandidates 6 = .ok (.istore_n 1, 1) := by decide +kernel
theorem dX0_findCandidates_7 : decode cX0_findCandidates 7 = .ok (.iload_n 1, 1) := by decide +kernel
theorem dX0_findCandidates_8 : decode cX0_findCandidates 8 = .ok (.sipush 255, 3) := by decide +kernel
theorem dX0_findCandidates_11 : decode cX0_findCandidates 11 = .ok (.if_icmp .gt 73, 3) := by decide +kernel
theorem dX0_findCandidates_14 : decode cX0_findCandidates 14 = .ok (.aload_n 0, 1) := by decide +kernel
theorem dX0_findCandidates_15 : decode cX0_findCandidates 15 = .ok (.iload_n 1, 1) := by decide +kernel
theorem dX0_findCandidates_16 : decode cX0_findCandidates 16 = .ok (.invokevirtual 165, 3) := by decide +kernel
theorem dX0_findCandidates_19 : decode cX0_findCandidates 19 = .ok (.istore_n 2, 1) := by decide +kernel
theorem dX0_findCandidates_20 : decode cX0_findCandidates 20 = .ok (.aload_n 0, 1) := by decide +kernel
theorem dX0_findCandidates_21 : decode cX0_findCandidates 21 = .ok (.iload_n 2, 1) := by decide +kernel
theorem dX0_findCandidates_22 : decode cX0_findCandidates 22 = .ok (.invokevirtual 149, 3) := by decide +kernel
theorem dX0_findCandidates_25 : decode cX0_findCandidates 25 = .ok (.iload_n 1, 1) := by decide +kernel
theorem dX0_findCandidates_26 : decode cX0_findCandidates 26 = .ok (.if_icmp .ne 7, 3) := by decide +kernel
theorem dX0_findCandidates_29 : decode cX0_findCandidates 29 = .ok (.iconst 1, 1) := by decide +kernel
theorem dX0_findCandidates_30 : decode cX0_findCandidates 30 = .ok (.goto 4, 3) := by decide +kernel
theorem dX0_findCandidates_33 : decode cX0_findCandidates 33 = .ok (.iconst 0, 1) := by decide +kernel
theorem dX0_findCandidates_34 : decode cX0_findCandidates 34 = .ok (.istore_n 3, 1) := by decide +kernel
theorem dX0_findCandidates_35 : decode cX0_findCandidates 35 = .ok (.iload_n 3, 1) := by decide +kernel
theorem dX0_findCandidates_36 : decode cX0_findCandidates 36 = .ok (.ifCond .eq 42, 3) := by decide +kernel
theorem dX0_findCandidates_39 : decode cX0_findCandidates 39 = .ok (.iload_n 2, 1) := by decide +kernel
theorem dX0_findCandidates_40 : decode cX0_findCandidates 40 = .ok (.ifCond .eq 38, 3) := by decide +kernel
theorem dX0_findCandidates_43 : decode cX0_findCandidates 43 = .ok (.iload_n 1, 1) := by decide +kernel
theorem dX0_findCandidates_44 : decode cX0_findCandidates 44 = .ok (.invokestatic 92, 3) := by decide +kernel
theorem dX0_findCandidates_47 : decode cX0_findCandidates 47 = .ok (.aload_n 0, 1) := by decide +kernel
theorem dX0_findCandidates_48 : decode cX0_findCandidates 48 = .ok (.getfield 26, 3) := by decide +kernel
theorem dX0_findCandidates_51 : decode cX0_findCandidates 51 = .ok (.if_icmp .lt 27, 3) := by decide +kernel
theorem dX0_findCandidates_54 : decode cX0_findCandidates 54 = .ok (.aload_n 0, 1) := by decide +kernel
theorem dX0_findCandidates_55 : decode cX0_findCandidates 55 = .ok (.iload_n 2, 1) := by decide +kernel
theorem dX0_findCandidates_56 : decode cX0_findCandidates 56 = .ok (.invokevirtual 162, 3) := by decide +kernel
theorem dX0_findCandidates_59 : decode cX0_findCandidates 59 = .ok (.ifCond .eq 19, 3) := by decide +kernel
theorem dX0_findCandidates_62 : decode cX0_findCandidates 62 = .ok (.aload_n 0, 1) := by decide +kernel
theorem dX0_findCandidates_63 : decode cX0_findCandidates 63 = .ok (.aload_n 0, 1) := by decide +kernel
theorem dX0_findCandidates_64 : decode cX0_findCandidates 64 = .ok (.getfield 41, 3) := by decide +kernel
theorem dX0_findCandidates_67 : decode cX0_findCandidates 67 = .ok (.aload_n 0, 1) := by decide +kernel
theorem dX0_findCandidates_68 : decode cX0_findCandidates 68 = .ok (.getfield 44, 3) := by decide +kernel
theorem dX0_findCandidates_71 : decode cX0_findCandidates 71 = .ok (.iload_n 2, 1) := by decide +kernel
theorem dX0_findCandidates_72 : decode cX0_findCandidates 72 = .ok (.invokestatic 128, 3) := by decide +kernel
theorem dX0_findCandidates_75 : decode cX0_findCandidates 75 = .ok (.putfield 44, 3) := by decide +kernel
theorem dX0_findCandidates_78 : decode cX0_findCandidates 78 = .ok (.iinc 1 1, 3) := by decide +kernel
theorem dX0_findCandidates_81 : decode cX0_findCandidates 81 = .ok (.goto (-74), 3) := by decide +kernel
theorem dX0_findCandidates_84 : decode cX0_findCandidates 84 = .ok (.iconst 0, 1) := by decide +kernel
theorem dX0_findCandidates_85 : decode cX0_findCandidates 85 = .ok (.istore_n 1, 1) := by decide +kernel
theorem dX0_findCandidates_86 : decode cX0_findCandidates 86 = .ok (.iload_n 1, 1) := by decide +kernel
theorem dX0_findCandidates_87 : decode cX0_findCandidates 87 = .ok (.aload_n 0, 1) := by decide +kernel
theorem dX0_findCandidates_88 : decode cX0_findCandidates 88 = .ok (.getfield 44, 3) := by decide +kernel
theorem dX0_findCandidates_91 : decode cX0_findCandidates 91 = .ok (.if_icmp .ge 14, 3) := by decide +kernel
theorem dX0_findCandidates_94 : decode cX0_findCandidates 94 = .ok (.aload_n 0, 1) := by decide +kernel
theorem dX0_findCandidates_95 : decode cX0_findCandidates 95 = .ok (.iload_n 1, 1) := by decide +kernel
theorem dX0_findCandidates_96 : decode cX0_findCandidates 96 = .ok (.invokevirtual 168, 3) := by decide +kernel
theorem dX0_findCandidates_99 : decode cX0_findCandidates 99 = .ok (.iinc 1 1, 3) := by decide +kernel
theorem dX0_findCandidates_102 : decode cX0_findCandidates 102 = .ok (.goto (-16), 3) := by decide +kernel
theorem dX0_findCandidates_105 : decode cX0_findCandidates 105 = .ok (.aload_n 0, 1) := by decide +kernel
theorem dX0_findCandidates_106 : decode cX0_findCandidates 106 = .ok (.invokevirtual 172, 3) := by decide +kernel
theorem dX0_findCandidates_109 : decode cX0_findCandidates 109 = .ok (.return_, 1) := by decide +kernel
set_option maxRecDepth 20000 in
theorem ggX0_findCover_X0_holds : GoodIn wsX0_findCover wsX0_holds := goodIn_r _ [8, 9, 16, 17, 18, 19, 20, 21, 22, 23, 24, 25, 26, 27, 28, 29, 30, 31] (by decide +kernel) (by decide +kernel)
set_option maxRecDepth 20000 in
theorem gX0_findCover_X0_holds : GoodIn wsX0_findCover (wsV RX0 156 RX0 yX0_holds wsX0_holds) := goodIn_app (goodIn_of _ (by decide +kernel)) ggX0_findCover_X0_holds
set_option maxRecDepth 20000 in
theorem ggX0_findCover_X0_lowPart : GoodIn wsX0_findCover wsX0_lowPart := goodIn_r _ [12] (by decide +kernel) (by decide +kernel)
set_option maxRecDepth 20000 in
theorem gX0_findCover_X0_lowPart : GoodIn wsX0_findCover (va_wsS RX0 175 yX0_lowPart wsX0_lowPart) := goodIn_app (goodIn_of _ (by decide +kernel)) ggX0_findCover_X0_lowPart
set_option maxRecDepth 20000 in
theorem ggX0_findCover_X0_highPart : GoodIn wsX0_findCover wsX0_highPart := goodIn_r _ [15] (by decide +kernel) (by decide +kernel)
set_option maxRecDepth 20000 in
theorem gX0_findCover_X0_highPart : GoodIn wsX0_findCover (va_wsS RX0 179 yX0_highPart wsX0_highPart) := goodIn_app (goodIn_of _ (by decide +kernel)) ggX0_findCover_X0_highPart
theorem dX0_findCover_0 : decode cX0_findCover 0 = .ok (.aload_n 0, 1) := by decide +kernel
theorem dX0_findCover_1 : decode cX0_findCover 1 = .ok (.getfield 41, 3) := by decide +kernel
theorem dX0_findCover_4 : decode cX0_findCover 4 = .ok (.iload_n 1, 1) := by decide +kernel
theorem dX0_findCover_5 : decode cX0_findCover 5 = .ok (.iaload, 1) := by decide +kernel
theorem dX0_findCover_6 : decode cX0_findCover 6 = .ok (.istore_n 2, 1) := by decide +kernel
theorem dX0_findCover_7 : decode cX0_findCover 7 = .ok (.lconst 0, 1) := by decide +kernel
theorem dX0_findCover_8 : decode cX0_findCover 8 = .ok (.lstore_n 3, 1) := by decide +kernel
theorem dX0_findCover_9 : decode cX0_findCover 9 = .ok (.lconst 0, 1) := by decide +kernel
theorem dX0_findCover_10 : decode cX0_findCover 10 = .ok (.lstore 5, 2) := by decide +kernel
theorem dX0_findCover_12 : decode cX0_findCover 12 = .ok (.iconst 0, 1) := by decide +kernel
theorem dX0_findCover_13 : decode cX0_findCover 13 = .ok (.istore 7, 2) := by decide +kernel
theorem dX0_findCover_15 : decode cX0_findCover 15 = .ok (.iload 7, 2) := by decide +kernel
theorem dX0_findCover_17 : decode cX0_findCover 17 = .ok (.bipush 8, 2) := by decide +kernel
theorem dX0_findCover_19 : decode cX0_findCover 19 = .ok (.if_icmp .ge 39, 3) := by decide +kernel
theorem dX0_findCover_22 : decode cX0_findCover 22 = .ok (.aload_n 0, 1) := by decide +kernel
theorem dX0_findCover_23 : decode cX0_findCover 23 = .ok (.iload 7, 2) := by decide +kernel
theorem dX0_findCover_25 : decode cX0_findCover 25 = .ok (.iload_n 2, 1) := by decide +kernel
theorem dX0_findCover_26 : decode cX0_findCover 26 = .ok (.invokevirtual 156, 3) := by decide +kernel
theorem dX0_findCover_29 : decode cX0_findCover 29 = .ok (.ifCond .eq 23, 3) := by decide +kernel
theorem dX0_findCover_32 : decode cX0_findCover 32 = .ok (.lload_n 3, 1) := by decide +kernel
theorem dX0_findCover_33 : decode cX0_findCover 33 = .ok (.iload 7, 2) := by decide +kernel
theorem dX0_findCover_35 : decode cX0_findCover 35 = .ok (.iload_n 2, 1) := by decide +kernel
theorem dX0_findCover_36 : decode cX0_findCover 36 = .ok (.invokestatic 175, 3) := by decide +kernel
theorem dX0_findCover_39 : decode cX0_findCover 39 = .ok (.lor, 1) := by decide +kernel
theorem dX0_findCover_40 : decode cX0_findCover 40 = .ok (.lstore_n 3, 1) := by decide +kernel
theorem dX0_findCover_41 : decode cX0_findCover 41 = .ok (.lload 5, 2) := by decide +kernel
theorem dX0_findCover_43 : decode cX0_findCover 43 = .ok (.iload 7, 2) := by decide +kernel
theorem dX0_findCover_45 : decode cX0_findCover 45 = .ok (.iload_n 2, 1) := by decide +kernel
theorem dX0_findCover_46 : decode cX0_findCover 46 = .ok (.invokestatic 179, 3) := by decide +kernel
theorem dX0_findCover_49 : decode cX0_findCover 49 = .ok (.lor, 1) := by decide +kernel
theorem dX0_findCover_50 : decode cX0_findCover 50 = .ok (.lstore 5, 2) := by decide +kernel
theorem dX0_findCover_52 : decode cX0_findCover 52 = .ok (.iinc 7 1, 3) := by decide +kernel
theorem dX0_findCover_55 : decode cX0_findCover 55 = .ok (.goto (-40), 3) := by decide +kernel
theorem dX0_findCover_58 : decode cX0_findCover 58 = .ok (.aload_n 0, 1) := by decide +kernel
theorem dX0_findCover_59 : decode cX0_findCover 59 = .ok (.getfield 47, 3) := by decide +kernel
theorem dX0_findCover_62 : decode cX0_findCover 62 = .ok (.iload_n 1, 1) := by decide +kernel
theorem dX0_findCover_63 : decode cX0_findCover 63 = .ok (.lload_n 3, 1) := by decide +kernel
theorem dX0_findCover_64 : decode cX0_findCover 64 = .ok (.lastore, 1) := by decide +kernel
theorem dX0_findCover_65 : decode cX0_findCover 65 = .ok (.aload_n 0, 1) := by decide +kernel
theorem dX0_findCover_66 : decode cX0_findCover 66 = .ok (.getfield 51, 3) := by decide +kernel
theorem dX0_findCover_69 : decode cX0_findCover 69 = .ok (.iload_n 1, 1) := by decide +kernel
theorem dX0_findCover_70 : decode cX0_findCover 70 = .ok (.lload 5, 2) := by decide +kernel
theorem dX0_findCover_72 : decode cX0_findCover 72 = .ok (.lastore, 1) := by decide +kernel
theorem dX0_findCover_73 : decode cX0_findCover 73 = .ok (.return_, 1) := by decide +kernel
set_option maxRecDepth 20000 in
theorem ggX0_findAllLeft_X0_lowPart : GoodIn wsX0_findAllLeft wsX0_lowPart := goodIn_r _ [7] (by decide +kernel) (by decide +kernel)
set_option maxRecDepth 20000 in
theorem gX0_findAllLeft_X0_lowPart : GoodIn wsX0_findAllLeft (va_wsS RX0 175 yX0_lowPart wsX0_lowPart) := goodIn_app (goodIn_of _ (by decide +kernel)) ggX0_findAllLeft_X0_lowPart
set_option maxRecDepth 20000 in
theorem ggX0_findAllLeft_X0_highPart : GoodIn wsX0_findAllLeft wsX0_highPart := goodIn_r _ [10] (by decide +kernel) (by decide +kernel)
set_option maxRecDepth 20000 in
theorem gX0_findAllLeft_X0_highPart : GoodIn wsX0_findAllLeft (va_wsS RX0 179 yX0_highPart wsX0_highPart) := goodIn_app (goodIn_of _ (by decide +kernel)) ggX0_findAllLeft_X0_highPart
theorem dX0_findAllLeft_0 : decode cX0_findAllLeft 0 = .ok (.lconst 0, 1) := by decide +kernel
theorem dX0_findAllLeft_1 : decode cX0_findAllLeft 1 = .ok (.lstore_n 1, 1) := by decide +kernel
theorem dX0_findAllLeft_2 : decode cX0_findAllLeft 2 = .ok (.lconst 0, 1) := by decide +kernel
theorem dX0_findAllLeft_3 : decode cX0_findAllLeft 3 = .ok (.lstore_n 3, 1) := by decide +kernel
theorem dX0_findAllLeft_4 : decode cX0_findAllLeft 4 = .ok (.iconst 0, 1) := by decide +kernel
theorem dX0_findAllLeft_5 : decode cX0_findAllLeft 5 = .ok (.istore 5, 2) := by decide +kernel
theorem dX0_findAllLeft_7 : decode cX0_findAllLeft 7 = .ok (.iload 5, 2) := by decide +kernel
theorem dX0_findAllLeft_9 : decode cX0_findAllLeft 9 = .ok (.bipush 8, 2) := by decide +kernel
theorem dX0_findAllLeft_11 : decode cX0_findAllLeft 11 = .ok (.if_icmp .ge 39, 3) := by decide +kernel
theorem dX0_findAllLeft_14 : decode cX0_findAllLeft 14 = .ok (.lload_n 1, 1) := by decide +kernel
theorem dX0_findAllLeft_15 : decode cX0_findAllLeft 15 = .ok (.iload 5, 2) := by decide +kernel
theorem dX0_findAllLeft_17 : decode cX0_findAllLeft 17 = .ok (.aload_n 0, 1) := by decide +kernel
theorem dX0_findAllLeft_18 : decode cX0_findAllLeft 18 = .ok (.getfield 9, 3) := by decide +kernel
theorem dX0_findAllLeft_21 : decode cX0_findAllLeft 21 = .ok (.iload 5, 2) := by decide +kernel
theorem dX0_findAllLeft_23 : decode cX0_findAllLeft 23 = .ok (.iaload, 1) := by decide +kernel
theorem dX0_findAllLeft_24 : decode cX0_findAllLeft 24 = .ok (.invokestatic 175, 3) := by decide +kernel
theorem dX0_findAllLeft_27 : decode cX0_findAllLeft 27 = .ok (.lor, 1) := by decide +kernel
theorem dX0_findAllLeft_28 : decode cX0_findAllLeft 28 = .ok (.lstore_n 1, 1) := by decide +kernel
theorem dX0_findAllLeft_29 : decode cX0_findAllLeft 29 = .ok (.lload_n 3, 1) := by decide +kernel
theorem dX0_findAllLeft_30 : decode cX0_findAllLeft 30 = .ok (.iload 5, 2) := by decide +kernel
theorem dX0_findAllLeft_32 : decode cX0_findAllLeft 32 = .ok (.aload_n 0, 1) := by decide +kernel
theorem dX0_findAllLeft_33 : decode cX0_findAllLeft 33 = .ok (.getfield 9, 3) := by decide +kernel
theorem dX0_findAllLeft_36 : decode cX0_findAllLeft 36 = .ok (.iload 5, 2) := by decide +kernel
theorem dX0_findAllLeft_38 : decode cX0_findAllLeft 38 = .ok (.iaload, 1) := by decide +kernel
theorem dX0_findAllLeft_39 : decode cX0_findAllLeft 39 = .ok (.invokestatic 179, 3) := by decide +kernel
theorem dX0_findAllLeft_42 : decode cX0_findAllLeft 42 = .ok (.lor, 1) := by decide +kernel
theorem dX0_findAllLeft_43 : decode cX0_findAllLeft 43 = .ok (.lstore_n 3, 1) := by decide +kernel
theorem dX0_findAllLeft_44 : decode cX0_findAllLeft 44 = .ok (.iinc 5 1, 3) := by decide +kernel
theorem dX0_findAllLeft_47 : decode cX0_findAllLeft 47 = .ok (.goto (-40), 3) := by decide +kernel
theorem dX0_findAllLeft_50 : decode cX0_findAllLeft 50 = .ok (.aload_n 0, 1) := by decide +kernel
theorem dX0_findAllLeft_51 : decode cX0_findAllLeft 51 = .ok (.getfield 54, 3) := by decide +kernel
theorem dX0_findAllLeft_54 : decode cX0_findAllLeft 54 = .ok (.bipush 14, 2) := by decide +kernel
theorem dX0_findAllLeft_56 : decode cX0_findAllLeft 56 = .ok (.lload_n 1, 1) := by decide +kernel
theorem dX0_findAllLeft_57 : decode cX0_findAllLeft 57 = .ok (.lastore, 1) := by decide +kernel
theorem dX0_findAllLeft_58 : decode cX0_findAllLeft 58 = .ok (.aload_n 0, 1) := by decide +kernel
theorem dX0_findAllLeft_59 : decode cX0_findAllLeft 59 = .ok (.getfield 57, 3) := by decide +kernel
theorem dX0_findAllLeft_62 : decode cX0_findAllLeft 62 = .ok (.bipush 14, 2) := by decide +kernel
theorem dX0_findAllLeft_64 : decode cX0_findAllLeft 64 = .ok (.lload_n 3, 1) := by decide +kernel
theorem dX0_findAllLeft_65 : decode cX0_findAllLeft 65 = .ok (.lastore, 1) := by decide +kernel
theorem dX0_findAllLeft_66 : decode cX0_findAllLeft 66 = .ok (.return_, 1) := by decide +kernel
theorem dX0_lowPart_0 : decode cX0_lowPart 0 = .ok (.iload_n 0, 1) := by decide +kernel
theorem dX0_lowPart_1 : decode cX0_lowPart 1 = .ok (.iconst 4, 1) := by decide +kernel
theorem dX0_lowPart_2 : decode cX0_lowPart 2 = .ok (.if_icmp .ge 13, 3) := by decide +kernel
theorem dX0_lowPart_5 : decode cX0_lowPart 5 = .ok (.iload_n 1, 1) := by decide +kernel
theorem dX0_lowPart_6 : decode cX0_lowPart 6 = .ok (.i2l, 1) := by decide +kernel
theorem dX0_lowPart_7 : decode cX0_lowPart 7 = .ok (.bipush 12, 2) := by decide +kernel
theorem dX0_lowPart_9 : decode cX0_lowPart 9 = .ok (.iload_n 0, 1) := by decide +kernel
theorem dX0_lowPart_10 : decode cX0_lowPart 10 = .ok (.imul, 1) := by decide +kernel
theorem dX0_lowPart_11 : decode cX0_lowPart 11 = .ok (.lshl, 1) := by decide +kernel
theorem dX0_lowPart_12 : decode cX0_lowPart 12 = .ok (.goto 4, 3) := by decide +kernel
theorem dX0_lowPart_15 : decode cX0_lowPart 15 = .ok (.lconst 0, 1) := by decide +kernel
theorem dX0_lowPart_16 : decode cX0_lowPart 16 = .ok (.lreturn, 1) := by decide +kernel
theorem dX0_highPart_0 : decode cX0_highPart 0 = .ok (.iload_n 0, 1) := by decide +kernel
theorem dX0_highPart_1 : decode cX0_highPart 1 = .ok (.iconst 4, 1) := by decide +kernel
theorem dX0_highPart_2 : decode cX0_highPart 2 = .ok (.if_icmp .lt 15, 3) := by decide +kernel
theorem dX0_highPart_5 : decode cX0_highPart 5 = .ok (.iload_n 1, 1) := by decide +kernel
theorem dX0_highPart_6 : decode cX0_highPart 6 = .ok (.i2l, 1) := by decide +kernel
theorem dX0_highPart_7 : decode cX0_highPart 7 = .ok (.bipush 12, 2) := by decide +kernel
theorem dX0_highPart_9 : decode cX0_highPart 9 = .ok (.iload_n 0, 1) := by decide +kernel
theorem dX0_highPart_10 : decode cX0_highPart 10 = .ok (.iconst 4, 1) := by decide +kernel
theorem dX0_highPart_11 : decode cX0_highPart 11 = .ok (.isub, 1) := by decide +kernel
theorem dX0_highPart_12 : decode cX0_highPart 12 = .ok (.imul, 1) := by decide +kernel
theorem dX0_highPart_13 : decode cX0_highPart 13 = .ok (.lshl, 1) := by decide +kernel
theorem dX0_highPart_14 : decode cX0_highPart 14 = .ok (.goto 4, 3) := by decide +kernel
theorem dX0_highPart_17 : decode cX0_highPart 17 = .ok (.lconst 0, 1) := by decide +kernel
theorem dX0_highPart_18 : decode cX0_highPart 18 = .ok (.lreturn, 1) := by decide +kernel
set_option maxRecDepth 20000 in
theorem ggX0_costWith_J13_bitCount_95d88 : GoodIn wsX0_costWith wsJ13_bitCount_95d88 := goodIn_r _ [6, 7, 8, 9] (by decide +kernel) (by decide +kernel)
set_option maxRecDepth 20000 in
theorem gX0_costWith_J13_bitCount_95d88 : GoodIn wsX0_costWith (va_wsS RX0 182 yJ13_bitCount_95d88 wsJ13_bitCount_95d88) := goodIn_app (goodIn_of _ (by decide +kernel)) ggX0_costWith_J13_bitCount_95d88
theorem dX0_costWith_0 : decode cX0_costWith 0 = .ok (.aload_n 0, 1) := by decide +kernel
theorem dX0_costWith_1 : decode cX0_costWith 1 = .ok (.getfield 19, 3) := by decide +kernel
theorem dX0_costWith_4 : decode cX0_costWith 4 = .ok (.iload_n 1, 1) := by decide +kernel
theorem dX0_costWith_5 : decode cX0_costWith 5 = .ok (.imul, 1) := by decide +kernel
theorem dX0_costWith_6 : decode cX0_costWith 6 = .ok (.aload_n 0, 1) := by decide +kernel
theorem dX0_costWith_7 : decode cX0_costWith 7 = .ok (.getfield 23, 3) := by decide +kernel
theorem dX0_costWith_10 : decode cX0_costWith 10 = .ok (.lload_n 2, 1) := by decide +kernel
theorem dX0_costWith_11 : decode cX0_costWith 11 = .ok (.invokestatic 182, 3) := by decide +kernel
theorem dX0_costWith_14 : decode cX0_costWith 14 = .ok (.lload 4, 2) := by decide +kernel
theorem dX0_costWith_16 : decode cX0_costWith 16 = .ok (.invokestatic 182, 3) := by decide +kernel
theorem dX0_costWith_19 : decode cX0_costWith 19 = .ok (.iadd, 1) := by decide +kernel
theorem dX0_costWith_20 : decode cX0_costWith 20 = .ok (.imul, 1) := by decide +kernel
theorem dX0_costWith_21 : decode cX0_costWith 21 = .ok (.iadd, 1) := by decide +kernel
theorem dX0_costWith_22 : decode cX0_costWith 22 = .ok (.ireturn, 1) := by decide +kernel
set_option maxRecDepth 20000 in
theorem ggX0_costOfChoice_X0_has : GoodIn wsX0_costOfChoice wsX0_has := goodIn_r _ [10] (by decide +kernel) (by decide +kernel)
set_option maxRecDepth 20000 in
theorem gX0_costOfChoice_X0_has : GoodIn wsX0_costOfChoice (va_wsS RX0 74 yX0_has wsX0_has) := goodIn_app (goodIn_of _ (by decide +kernel)) ggX0_costOfChoice_X0_has
set_option maxRecDepth 20000 in
theorem ggX0_costOfChoice_J6_bitCount_0f7a4 : GoodIn wsX0_costOfChoice wsJ6_bitCount_0f7a4 := goodIn_r _ [14, 15, 16, 17] (by decide +kernel) (by decide +kernel)
set_option maxRecDepth 20000 in
theorem gX0_costOfChoice_J6_bitCount_0f7a4 : GoodIn wsX0_costOfChoice (va_wsS RX0 92 yJ6_bitCount_0f7a4 wsJ6_bitCount_0f7a4) := goodIn_app (goodIn_of _ (by decide +kernel)) ggX0_costOfChoice_J6_bitCount_0f7a4
set_option maxRecDepth 20000 in
theorem ggX0_costOfChoice_X0_costWith : GoodIn wsX0_costOfChoice wsX0_costWith := goodIn_r _ [21, 22, 23, 24, 25, 26, 27, 28, 29, 30, 31, 32, 33, 34, 35, 36, 37, 38, 39, 40, 41, 42, 43, 44, 45, 46] (by decide +kernel) (by decide +kernel)
set_option maxRecDepth 20000 in
theorem gX0_costOfChoice_X0_costWith : GoodIn wsX0_costOfChoice (wsV RX0 134 RX0 yX0_costWith wsX0_costWith) := goodIn_app (goodIn_of _ (by decide +kernel)) ggX0_costOfChoice_X0_costWith
theorem dX0_costOfChoice_0 : decode cX0_costOfChoice 0 = .ok (.aload_n 0, 1) := by decide +kernel
theorem dX0_costOfChoice_1 : decode cX0_costOfChoice 1 = .ok (.getfield 54, 3) := by decide +kernel
theorem dX0_costOfChoice_4 : decode cX0_costOfChoice 4 = .ok (.bipush 14, 2) := by decide +kernel
theorem dX0_costOfChoice_6 : decode cX0_costOfChoice 6 = .ok (.laload, 1) := by decide +kernel
theorem dX0_costOfChoice_7 : decode cX0_costOfChoice 7 = .ok (.lstore_n 2, 1) := by decide +kernel
theorem dX0_costOfChoice_8 : decode cX0_costOfChoice 8 = .ok (.aload_n 0, 1) := by decide +kernel
theorem dX0_costOfChoice_9 : decode cX0_costOfChoice 9 = .ok (.getfield 57, 3) := by decide +kernel
theorem dX0_costOfChoice_12 : decode cX0_costOfChoice 12 = .ok (.bipush 14, 2) := by decide +kernel
theorem dX0_costOfChoice_14 : decode cX0_costOfChoice 14 = .ok (.laload, 1) := by decide +kernel
theorem dX0_costOfChoice_15 : decode cX0_costOfChoice 15 = .ok (.lstore 4, 2) := by decide +kernel
theorem dX0_costOfChoice_17 : decode cX0_costOfChoice 17 = .ok (.iconst 0, 1) := by decide +kernel
theorem dX0_costOfChoice_18 : decode cX0_costOfChoice 18 = .ok (.istore 6, 2) := by decide +kernel
theorem dX0_costOfChoice_20 : decode cX0_costOfChoice 20 = .ok (.iload 6, 2) := by decide +kernel
theorem dX0_costOfChoice_22 : decode cX0_costOfChoice 22 = .ok (.aload_n 0, 1) := by decide +kernel
theorem dX0_costOfChoice_23 : decode cX0_costOfChoice 23 = .ok (.getfield 44, 3) := by decide +kernel
theorem dX0_costOfChoice_26 : decode cX0_costOfChoice 26 = .ok (.if_icmp .ge 55, 3) := by decide +kernel
theorem dX0_costOfChoice_29 : decode cX0_costOfChoice 29 = .ok (.iload 6, 2) := by decide +kernel
theorem dX0_costOfChoice_31 : decode cX0_costOfChoice 31 = .ok (.bipush 14, 2) := by decide +kernel
theorem dX0_costOfChoice_33 : decode cX0_costOfChoice 33 = .ok (.if_icmp .ge 48, 3) := by decide +kernel
theorem dX0_costOfChoice_36 : decode cX0_costOfChoice 36 = .ok (.iload_n 1, 1) := by decide +kernel
theorem dX0_costOfChoice_37 : decode cX0_costOfChoice 37 = .ok (.iload 6, 2) := by decide +kernel
theorem dX0_costOfChoice_39 : decode cX0_costOfChoice 39 = .ok (.invokestatic 74, 3) := by decide +kernel
theorem dX0_costOfChoice_42 : decode cX0_costOfChoice 42 = .ok (.ifCond .eq 33, 3) := by decide +kernel
theorem dX0_costOfChoice_45 : decode cX0_costOfChoice 45 = .ok (.lload_n 2, 1) := by decide +kernel
theorem dX0_costOfChoice_46 : decode cX0_costOfChoice 46 = .ok (.aload_n 0, 1) := by decide +kernel
theorem dX0_costOfChoice_47 : decode cX0_costOfChoice 47 = .ok (.getfield 47, 3) := by decide +kernel
theorem dX0_costOfChoice_50 : decode cX0_costOfChoice 50 = .ok (.iload 6, 2) := by decide +kernel
theorem dX0_costOfChoice_52 : decode cX0_costOfChoice 52 = .ok (.laload, 1) := by decide +kernel
theorem dX0_costOfChoice_53 : decode cX0_costOfChoice 53 = .ok (.ldc2_w 132, 3) := by decide +kernel
theorem dX0_costOfChoice_56 : decode cX0_costOfChoice 56 = .ok (.lxor, 1) := by decide +kernel
theorem dX0_costOfChoice_57 : decode cX0_costOfChoice 57 = .ok (.land, 1) := by decide +kernel
theorem dX0_costOfChoice_58 : decode cX0_costOfChoice 58 = .ok (.lstore_n 2, 1) := by decide +kernel
theorem dX0_costOfChoice_59 : decode cX0_costOfChoice 59 = .ok (.lload 4, 2) := by decide +kernel
theorem dX0_costOfChoice_61 : decode cX0_costOfChoice 61 = .ok (.aload_n 0, 1) := by decide +kernel
theorem dX0_costOfChoice_62 : decode cX0_costOfChoice 62 = .ok (.getfield 51, 3) := by decide +kernel
theorem dX0_costOfChoice_65 : decode cX0_costOfChoice 65 = .ok (.iload 6, 2) := by decide +kernel
theorem dX0_costOfChoice_67 : decode cX0_costOfChoice 67 = .ok (.laload, 1) := by decide +kernel
theorem dX0_costOfChoice_68 : decode cX0_costOfChoice 68 = .ok (.ldc2_w 132, 3) := by decide +kernel
theorem dX0_costOfChoice_71 : decode cX0_costOfChoice 71 = .ok (.lxor, 1) := by decide +kernel
theorem dX0_costOfChoice_72 : decode cX0_costOfChoice 72 = .ok (.land, 1) := by decide +kernel
theorem dX0_costOfChoice_73 : decode cX0_costOfChoice 73 = .ok (.lstore 4, 2) := by decide +kernel
theorem dX0_costOfChoice_75 : decode cX0_costOfChoice 75 = .ok (.iinc 6 1, 3) := by decide +kernel
theorem dX0_costOfChoice_78 : decode cX0_costOfChoice 78 = .ok (.goto (-58), 3) := by decide +kernel
theorem dX0_costOfChoice_81 : decode cX0_costOfChoice 81 = .ok (.aload_n 0, 1) := by decide +kernel
theorem dX0_costOfChoice_82 : decode cX0_costOfChoice 82 = .ok (.iload_n 1, 1) := by decide +kernel
theorem dX0_costOfChoice_83 : decode cX0_costOfChoice 83 = .ok (.invokestatic 92, 3) := by decide +kernel
theorem dX0_costOfChoice_86 : decode cX0_costOfChoice 86 = .ok (.lload_n 2, 1) := by decide +kernel
theorem dX0_costOfChoice_87 : decode cX0_costOfChoice 87 = .ok (.lload 4, 2) := by decide +kernel
theorem dX0_costOfChoice_89 : decode cX0_costOfChoice 89 = .ok (.invokevirtual 134, 3) := by decide +kernel
theorem dX0_costOfChoice_92 : decode cX0_costOfChoice 92 = .ok (.ireturn, 1) := by decide +kernel
set_option maxRecDepth 20000 in
theorem ggX0_mostSavingCandidate_J13_bitCount_95d88 : GoodIn wsX0_mostSavingCandidate wsJ13_bitCount_95d88 := goodIn_r _ [9, 10, 11, 12] (by decide +kernel) (by decide +kernel)
set_option maxRecDepth 20000 in
theorem gX0_mostSavingCandidate_J13_bitCount_95d88 : GoodIn wsX0_mostSavingCandidate (va_wsS RX0 182 yJ13_bitCount_95d88 wsJ13_bitCount_95d88) := goodIn_app (goodIn_of _ (by decide +kernel)) ggX0_mostSavingCandidate_J13_bitCount_95d88
theorem dX0_mostSavingCandidate_0 : decode cX0_mostSavingCandidate 0 = .ok (.iconst (-1), 1) := by decide +kernel
theorem dX0_mostSavingCandidate_1 : decode cX0_mostSavingCandidate 1 = .ok (.istore 5, 2) := by decide +kernel
theorem dX0_mostSavingCandidate_3 : decode cX0_mostSavingCandidate 3 = .ok (.iconst 0, 1) := by decide +kernel
theorem dX0_mostSavingCandidate_4 : decode cX0_mostSavingCandidate 4 = .ok (.istore 6, 2) := by decide +kernel
theorem dX0_mostSavingCandidate_6 : decode cX0_mostSavingCandidate 6 = .ok (.iconst 0, 1) := by decide +kernel
theorem dX0_mostSavingCandidate_7 : decode cX0_mostSavingCandidate 7 = .ok (.istore 7, 2) := by decide +kernel
theorem dX0_mostSavingCandidate_9 : decode cX0_mostSavingCandidate 9 = .ok (.iload 7, 2) := by decide +kernel
theorem dX0_mostSavingCandidate_11 : decode cX0_mostSavingCandidate 11 = .ok (.aload_n 0, 1) := by decide +kernel
theorem dX0_mostSavingCandidate_12 : decode cX0_mostSavingCandidate 12 = .ok (.getfield 44, 3) := by decide +kernel
theorem dX0_mostSavingCandidate_15 : decode cX0_mostSavingCandidate 15 = .ok (.if_icmp .ge 65, 3) := by decide +kernel
theorem dX0_mostSavingCandidate_18 : decode cX0_mostSavingCandidate 18 = .ok (.lload_n 1, 1) := by decide +kernel
theorem dX0_mostSavingCandidate_19 : decode cX0_mostSavingCandidate 19 = .ok (.aload_n 0, 1) := by decide +kernel
theorem dX0_mostSavingCandidate_20 : decode cX0_mostSavingCandidate 20 = .ok (.getfield 47, 3) := by decide +kernel
theorem dX0_mostSavingCandidate_23 : decode cX0_mostSavingCandidate 23 = .ok (.iload 7, 2) := by decide +kernel
theorem dX0_mostSavingCandidate_25 : decode cX0_mostSavingCandidate 25 = .ok (.laload, 1) := by decide +kernel
theorem dX0_mostSavingCandidate_26 : decode cX0_mostSavingCandidate 26 = .ok (.land, 1) := by decide +kernel
theorem dX0_mostSavingCandidate_27 : decode cX0_mostSavingCandidate 27 = .ok (.invokestatic 182, 3) := by decide +kernel
theorem dX0_mostSavingCandidate_30 : decode cX0_mostSavingCandidate 30 = .ok (.lload_n 3, 1) := by decide +kernel
theorem dX0_mostSavingCandidate_31 : decode cX0_mostSavingCandidate 31 = .ok (.aload_n 0, 1) := by decide +kernel
theorem dX0_mostSavingCandidate_32 : decode cX0_mostSavingCandidate 32 = .ok (.getfield 51, 3) := by decide +kernel
theorem dX0_mostSavingCandidate_35 : decode cX0_mostSavingCandidate 35 = .ok (.iload 7, 2) := by decide +kernel
theorem dX0_mostSavingCandidate_37 : decode cX0_mostSavingCandidate 37 = .ok (.laload, 1) := by decide +kernel
theorem dX0_mostSavingCandidate_38 : decode cX0_mostSavingCandidate 38 = .ok (.land, 1) := by decide +kernel
theorem dX0_mostSavingCandidate_39 : decode cX0_mostSavingCandidate 39 = .ok (.invokestatic 182, 3) := by decide +kernel
theorem dX0_mostSavingCandidate_42 : decode cX0_mostSavingCandidate 42 = .ok (.iadd, 1) := by decide +kernel
theorem dX0_mostSavingCandidate_43 : decode cX0_mostSavingCandidate 43 = .ok (.istore 8, 2) := by decide +kernel
theorem dX0_mostSavingCandidate_45 : decode cX0_mostSavingCandidate 45 = .ok (.aload_n 0, 1) := by decide +kernel
theorem dX0_mostSavingCandidate_46 : decode cX0_mostSavingCandidate 46 = .ok (.getfield 23, 3) := by decide +kernel
theorem dX0_mostSavingCandidate_49 : decode cX0_mostSavingCandidate 49 = .ok (.iload 8, 2) := by decide +kernel
theorem dX0_mostSavingCandidate_51 : decode cX0_mostSavingCandidate 51 = .ok (.imul, 1) := by decide +kernel
theorem dX0_mostSavingCandidate_52 : decode cX0_mostSavingCandidate 52 = .ok (.aload_n 0, 1) := by decide +kernel
theorem dX0_mostSavingCandidate_53 : decode cX0_mostSavingCandidate 53 = .ok (.getfield 19, 3) := by decide +kernel
theorem dX0_mostSavingCandidate_56 : decode cX0_mostSavingCandidate 56 = .ok (.isub, 1) := by decide +kernel
theorem dX0_mostSavingCandidate_57 : decode cX0_mostSavingCandidate 57 = .ok (.istore 9, 2) := by decide +kernel
theorem dX0_mostSavingCandidate_59 : decode cX0_mostSavingCandidate 59 = .ok (.iload 9, 2) := by decide +kernel
theorem dX0_mostSavingCandidate_61 : decode cX0_mostSavingCandidate 61 = .ok (.iload 6, 2) := by decide +kernel
theorem dX0_mostSavingCandidate_63 : decode cX0_mostSavingCandidate 63 = .ok (.if_icmp .le 11, 3) := by decide +kernel
theorem dX0_mostSavingCandidate_66 : decode cX0_mostSavingCandidate 66 = .ok (.iload 7, 2) := by decide +kernel
theorem dX0_mostSavingCandidate_68 : decode cX0_mostSavingCandidate 68 = .ok (.istore 5, 2) := by decide +kernel
theorem dX0_mostSavingCandidate_70 : decode cX0_mostSavingCandidate 70 = .ok (.iload 9, 2) := by decide +kernel
theorem dX0_mostSavingCandidate_72 : decode cX0_mostSavingCandidate 72 = .ok (.istore 6, 2) := by decide +kernel
theorem dX0_mostSavingCandidate_74 : decode cX0_mostSavingCandidate 74 = .ok (.iinc 7 1, 3) := by decide +kernel
theorem dX0_mostSavingCandidate_77 : decode cX0_mostSavingCandidate 77 = .ok (.goto (-68), 3) := by decide +kernel
theorem dX0_mostSavingCandidate_80 : decode cX0_mostSavingCandidate 80 = .ok (.iload 5, 2) := by decide +kernel
theorem dX0_mostSavingCandidate_82 : decode cX0_mostSavingCandidate 82 = .ok (.ireturn, 1) := by decide +kernel
set_option maxRecDepth 20000 in
theorem ggX0_bestChoice_X0_costOfChoice : GoodIn wsX0_bestChoice wsX0_costOfChoice := goodIn_r _ [15, 6, 9, 1, 7, 8, 10, 16, 17, 14, 18, 19, 20, 21, 22, 23, 24, 25, 26, 27, 28, 29, 30, 31, 32, 33, 34, 35, 36, 37, 38, 49, 50, 51, 52, 53, 54, 55, 56, 57, 58, 59, 60, 61, 62, 63, 64] (by decide +kernel) (by decide +kernel)
set_option maxRecDepth 20000 in
theorem gX0_bestChoice_X0_costOfChoice : GoodIn wsX0_bestChoice (wsV RX0 144 RX0 yX0_costOfChoice wsX0_costOfChoice) := goodIn_app (goodIn_of _ (by decide +kernel)) ggX0_bestChoice_X0_costOfChoice
set_option maxRecDepth 20000 in
theorem ggX0_bestChoice_J6_numberOfTrailingZeros_0f7a4 : GoodIn wsX0_bestChoice wsJ6_numberOfTrailingZeros_0f7a4 := goodIn_r _ [41, 42] (by decide +kernel) (by decide +kernel)
set_option maxRecDepth 20000 in
theorem gX0_bestChoice_J6_numberOfTrailingZeros_0f7a4 : GoodIn wsX0_bestChoice (va_wsS RX0 192 yJ6_numberOfTrailingZeros_0f7a4 wsJ6_numberOfTrailingZeros_0f7a4) := goodIn_app (goodIn_of _ (by decide +kernel)) ggX0_bestChoice_J6_numberOfTrailingZeros_0f7a4
set_option maxRecDepth 20000 in
theorem ggX0_bestChoice_J6_bitCount_0f7a4 : GoodIn wsX0_bestChoice wsJ6_bitCount_0f7a4 := goodIn_r _ [22, 23, 24, 25] (by decide +kernel) (by decide +kernel)
set_option maxRecDepth 20000 in
theorem gX0_bestChoice_J6_bitCount_0f7a4 : GoodIn wsX0_bestChoice (va_wsS RX0 92 yJ6_bitCount_0f7a4 wsJ6_bitCount_0f7a4) := goodIn_app (goodIn_of _ (by decide +kernel)) ggX0_bestChoice_J6_bitCount_0f7a4
set_option maxRecDepth 20000 in
theorem ggX0_bestChoice_X0_costWith : GoodIn wsX0_bestChoice wsX0_costWith := goodIn_r _ [29, 30, 31, 32, 33, 34, 35, 36, 37, 38, 49, 50, 51, 52, 53, 54, 55, 56, 57, 58, 59, 60, 61, 62, 63, 64] (by decide +kernel) (by decide +kernel)
set_option maxRecDepth 20000 in
theorem gX0_bestChoice_X0_costWith : GoodIn wsX0_bestChoice (wsV RX0 134 RX0 yX0_costWith wsX0_costWith) := goodIn_app (goodIn_of _ (by decide +kernel)) ggX0_bestChoice_X0_costWith
set_option maxRecDepth 20000 in
theorem ggX0_bestChoice_X0_comesBefore : GoodIn wsX0_bestChoice wsX0_comesBefore := goodIn_r _ [45, 19, 20, 21, 22, 23, 24, 25, 46, 47, 48] (by decide +kernel) (by decide +kernel)
set_option maxRecDepth 20000 in
theorem gX0_bestChoice_X0_comesBefore : GoodIn wsX0_bestChoice (va_wsS RX0 195 yX0_comesBefore wsX0_comesBefore) := goodIn_app (goodIn_of _ (by decide +kernel)) ggX0_bestChoice_X0_comesBefore
theorem dX0_bestChoice_0 : decode cX0_bestChoice 0 = .ok (.iconst 1, 1) := by decide +kernel
theorem dX0_bestChoice_1 : decode cX0_bestChoice 1 = .ok (.aload_n 0, 1) := by decide +kernel
theorem dX0_bestChoice_2 : decode cX0_bestChoice 2 = .ok (.getfield 44, 3) := by decide +kernel
theorem dX0_bestChoice_5 : decode cX0_bestChoice 5 = .ok (.bipush 14, 2) := by decide +kernel
theorem dX0_bestChoice_7 : decode cX0_bestChoice 7 = .ok (.invokestatic 187, 3) := by decide +kernel
theorem dX0_bestChoice_10 : decode cX0_bestChoice 10 = .ok (.ishl, 1) := by decide +kernel
theorem dX0_bestChoice_11 : decode cX0_bestChoice 11 = .ok (.istore_n 1, 1) := by decide +kernel
theorem dX0_bestChoice_12 : decode cX0_bestChoice 12 = .ok (.iconst 0, 1) := by decide +kernel
theorem dX0_bestChoice_13 : decode cX0_bestChoice 13 = .ok (.istore_n 2, 1) := by decide +kernel
theorem dX0_bestChoice_14 : decode cX0_bestChoice 14 = .ok (.aload_n 0, 1) := by decide +kernel
theorem dX0_bestChoice_15 : decode cX0_bestChoice 15 = .ok (.iconst 0, 1) := by decide +kernel
theorem dX0_bestChoice_16 : decode cX0_bestChoice 16 = .ok (.invokevirtual 144, 3) := by decide +kernel
theorem dX0_bestChoice_19 : decode cX0_bestChoice 19 = .ok (.istore_n 3, 1) := by decide +kernel
theorem dX0_bestChoice_20 : decode cX0_bestChoice 20 = .ok (.iconst 1, 1) := by decide +kernel
theorem dX0_bestChoice_21 : decode cX0_bestChoice 21 = .ok (.istore 4, 2) := by decide +kernel
theorem dX0_bestChoice_23 : decode cX0_bestChoice 23 = .ok (.iload 4, 2) := by decide +kernel
theorem dX0_bestChoice_25 : decode cX0_bestChoice 25 = .ok (.iload_n 1, 1) := by decide +kernel
theorem dX0_bestChoice_26 : decode cX0_bestChoice 26 = .ok (.if_icmp .ge 142, 3) := by decide +kernel
theorem dX0_bestChoice_29 : decode cX0_bestChoice 29 = .ok (.iload 4, 2) := by decide +kernel
theorem dX0_bestChoice_31 : decode cX0_bestChoice 31 = .ok (.invokestatic 192, 3) := by decide +kernel
theorem dX0_bestChoice_34 : decode cX0_bestChoice 34 = .ok (.bipush 13, 2) := by decide +kernel
theorem dX0_bestChoice_36 : decode cX0_bestChoice 36 = .ok (.invokestatic 187, 3) := by decide +kernel
theorem dX0_bestChoice_39 : decode cX0_bestChoice 39 = .ok (.istore 5, 2) := by decide +kernel
theorem dX0_bestChoice_41 : decode cX0_bestChoice 41 = .ok (.iload 4, 2) := by decide +kernel
theorem dX0_bestChoice_43 : decode cX0_bestChoice 43 = .ok (.iload 4, 2) := by decide +kernel
theorem dX0_bestChoice_45 : decode cX0_bestChoice 45 = .ok (.iconst 1, 1) := by decide +kernel
theorem dX0_bestChoice_46 : decode cX0_bestChoice 46 = .ok (.isub, 1) := by decide +kernel
theorem dX0_bestChoice_47 : decode cX0_bestChoice 47 = .ok (.iand, 1) := by decide +kernel
theorem dX0_bestChoice_48 : decode cX0_bestChoice 48 = .ok (.invokestatic 192, 3) := by decide +kernel
theorem dX0_bestChoice_51 : decode cX0_bestChoice 51 = .ok (.bipush 14, 2) := by decide +kernel
theorem dX0_bestChoice_53 : decode cX0_bestChoice 53 = .ok (.invokestatic 187, 3) := by decide +kernel
theorem dX0_bestChoice_56 : decode cX0_bestChoice 56 = .ok (.istore 6, 2) := by decide +kernel
theorem dX0_bestChoice_58 : decode cX0_bestChoice 58 = .ok (.aload_n 0, 1) := by decide +kernel
theorem dX0_bestChoice_59 : decode cX0_bestChoice 59 = .ok (.getfield 54, 3) := by decide +kernel
theorem dX0_bestChoice_62 : decode cX0_bestChoice 62 = .ok (.iload 5, 2) := by decide +kernel
theorem dX0_bestChoice_64 : decode cX0_bestChoice 64 = .ok (.aload_n 0, 1) := by decide +kernel
theorem dX0_bestChoice_65 : decode cX0_bestChoice 65 = .ok (.getfield 54, 3) := by decide +kernel
theorem dX0_bestChoice_68 : decode cX0_bestChoice 68 = .ok (.iload 6, 2) := by decide +kernel
theorem dX0_bestChoice_70 : decode cX0_bestChoice 70 = .ok (.laload, 1) := by decide +kernel
theorem dX0_bestChoice_71 : decode cX0_bestChoice 71 = .ok (.aload_n 0, 1) := by decide +kernel
theorem dX0_bestChoice_72 : decode cX0_bestChoice 72 = .ok (.getfield 47, 3) := by decide +kernel
theorem dX0_bestChoice_75 : decode cX0_bestChoice 75 = .ok (.iload 5, 2) := by decide +kernel
theorem dX0_bestChoice_77 : decode cX0_bestChoice 77 = .ok (.laload, 1) := by decide +kernel
theorem dX0_bestChoice_78 : decode cX0_bestChoice 78 = .ok (.ldc2_w 132, 3) := by decide +kernel
theorem dX0_bestChoice_81 : decode cX0_bestChoice 81 = .ok (.lxor, 1) := by decide +kernel
theorem dX0_bestChoice_82 : decode cX0_bestChoice 82 = .ok (.land, 1) := by decide +kernel
theorem dX0_bestChoice_83 : decode cX0_bestChoice 83 = .ok (.lastore, 1) := by decide +kernel
theorem dX0_bestChoice_84 : decode cX0_bestChoice 84 = .ok (.aload_n 0, 1) := by decide +kernel
theorem dX0_bestChoice_85 : decode cX0_bestChoice 85 = .ok (.getfield 57, 3) := by decide +kernel
theorem dX0_bestChoice_88 : decode cX0_bestChoice 88 = .ok (.iload 5, 2) := by decide +kernel
theorem dX0_bestChoice_90 : decode cX0_bestChoice 90 = .ok (.aload_n 0, 1) := by decide +kernel
theorem dX0_bestChoice_91 : decode cX0_bestChoice 91 = .ok (.getfield 57, 3) := by decide +kernel
theorem dX0_bestChoice_94 : decode cX0_bestChoice 94 = .ok (.iload 6, 2) := by decide +kernel
theorem dX0_bestChoice_96 : decode cX0_bestChoice 96 = .ok (.laload, 1) := by decide +kernel
theorem dX0_bestChoice_97 : decode cX0_bestChoice 97 = .ok (.aload_n 0, 1) := by decide +kernel
theorem dX0_bestChoice_98 : decode cX0_bestChoice 98 = .ok (.getfield 51, 3) := by decide +kernel
theorem dX0_bestChoice_101 : decode cX0_bestChoice 101 = .ok (.iload 5, 2) := by decide +kernel
theorem dX0_bestChoice_103 : decode cX0_bestChoice 103 = .ok (.laload, 1) := by decide +kernel
theorem dX0_bestChoice_104 : decode cX0_bestChoice 104 = .ok (.ldc2_w 132, 3) := by decide +kernel
theorem dX0_bestChoice_107 : decode cX0_bestChoice 107 = .ok (.lxor, 1) := by decide +kernel
theorem dX0_bestChoice_108 : decode cX0_bestChoice 108 = .ok (.land, 1) := by decide +kernel
theorem dX0_bestChoice_109 : decode cX0_bestChoice 109 = .ok (.lastore, 1) := by decide +kernel
theorem dX0_bestChoice_110 : decode cX0_bestChoice 110 = .ok (.aload_n 0, 1) := by decide +kernel
theorem dX0_bestChoice_111 : decode cX0_bestChoice 111 = .ok (.iload 4, 2) := by decide +kernel
theorem dX0_bestChoice_113 : decode cX0_bestChoice 113 = .ok (.invokestatic 92, 3) := by decide +kernel
theorem dX0_bestChoice_116 : decode cX0_bestChoice 116 = .ok (.aload_n 0, 1) := by decide +kernel
theorem dX0_bestChoice_117 : decode cX0_bestChoice 117 = .ok (.getfield 54, 3) := by decide +kernel
theorem dX0_bestChoice_120 : decode cX0_bestChoice 120 = .ok (.iload 5, 2) := by decide +kernel
theorem dX0_bestChoice_122 : decode cX0_bestChoice 122 = .ok (.laload, 1) := by decide +kernel
theorem dX0_bestChoice_123 : decode cX0_bestChoice 123 = .ok (.aload_n 0, 1) := by decide +kernel
theorem dX0_bestChoice_124 : decode cX0_bestChoice 124 = .ok (.getfield 57, 3) := by decide +kernel
theorem dX0_bestChoice_127 : decode cX0_bestChoice 127 = .ok (.iload 5, 2) := by decide +kernel
theorem dX0_bestChoice_129 : decode cX0_bestChoice 129 = .ok (.laload, 1) := by decide +kernel
theorem dX0_bestChoice_130 : decode cX0_bestChoice 130 = .ok (.invokevirtual 134, 3) := by decide +kernel
theorem dX0_bestChoice_133 : decode cX0_bestChoice 133 = .ok (.istore 7, 2) := by decide +kernel
theorem dX0_bestChoice_135 : decode cX0_bestChoice 135 = .ok (.iload 7, 2) := by decide +kernel
theorem dX0_bestChoice_137 : decode cX0_bestChoice 137 = .ok (.iload_n 3, 1) := by decide +kernel
theorem dX0_bestChoice_138 : decode cX0_bestChoice 138 = .ok (.if_icmp .lt 18, 3) := by decide +kernel
theorem dX0_bestChoice_141 : decode cX0_bestChoice 141 = .ok (.iload 7, 2) := by decide +kernel
theorem dX0_bestChoice_143 : decode cX0_bestChoice 143 = .ok (.iload_n 3, 1) := by decide +kernel
theorem dX0_bestChoice_144 : decode cX0_bestChoice 144 = .ok (.if_icmp .ne 18, 3) := by decide +kernel
theorem dX0_bestChoice_147 : decode cX0_bestChoice 147 = .ok (.iload 4, 2) := by decide +kernel
theorem dX0_bestChoice_149 : decode cX0_bestChoice 149 = .ok (.iload_n 2, 1) := by decide +kernel
theorem dX0_bestChoice_150 : decode cX0_bestChoice 150 = .ok (.invokestatic 195, 3) := by decide +kernel
theorem dX0_bestChoice_153 : decode cX0_bestChoice 153 = .ok (.ifCond .eq 9, 3) := by decide +kernel
theorem dX0_bestChoice_156 : decode cX0_bestChoice 156 = .ok (.iload 4, 2) := by decide +kernel
theorem dX0_bestChoice_158 : decode cX0_bestChoice 158 = .ok (.istore_n 2, 1) := by decide +kernel
theorem dX0_bestChoice_159 : decode cX0_bestChoice 159 = .ok (.iload 7, 2) := by decide +kernel
theorem dX0_bestChoice_161 : decode cX0_bestChoice 161 = .ok (.istore_n 3, 1) := by decide +kernel
theorem dX0_bestChoice_162 : decode cX0_bestChoice 162 = .ok (.iinc 4 1, 3) := by decide +kernel
theorem dX0_bestChoice_165 : decode cX0_bestChoice 165 = .ok (.goto (-142), 3) := by decide +kernel
theorem dX0_bestChoice_168 : decode cX0_bestChoice 168 = .ok (.iload_n 2, 1) := by decide +kernel
theorem dX0_bestChoice_169 : decode cX0_bestChoice 169 = .ok (.ireturn, 1) := by decide +kernel
set_option maxRecDepth 20000 in
theorem ggX0_comesBefore_J6_bitCount_0f7a4 : GoodIn wsX0_comesBefore wsJ6_bitCount_0f7a4 := goodIn_r _ [4, 5, 6, 7] (by decide +kernel) (by decide +kernel)
set_option maxRecDepth 20000 in
theorem gX0_comesBefore_J6_bitCount_0f7a4 : GoodIn wsX0_comesBefore (va_wsS RX0 92 yJ6_bitCount_0f7a4 wsJ6_bitCount_0f7a4) := goodIn_app (goodIn_of _ (by decide +kernel)) ggX0_comesBefore_J6_bitCount_0f7a4
set_option maxRecDepth 20000 in
theorem ggX0_comesBefore_J6_lowestOneBit_0f7a4 : GoodIn wsX0_comesBefore wsJ6_lowestOneBit_0f7a4 := goodIn_r _ [10] (by decide +kernel) (by decide +kernel)
set_option maxRecDepth 20000 in
theorem gX0_comesBefore_J6_lowestOneBit_0f7a4 : GoodIn wsX0_comesBefore (va_wsS RX0 198 yJ6_lowestOneBit_0f7a4 wsJ6_lowestOneBit_0f7a4) := goodIn_app (goodIn_of _ (by decide +kernel)) ggX0_comesBefore_J6_lowestOneBit_0f7a4
theorem dX0_comesBefore_0 : decode cX0_comesBefore 0 = .ok (.iload_n 1, 1) := by decide +kernel
theorem dX0_comesBefore_1 : decode cX0_comesBefore 1 = .ok (.invokestatic 92, 3) := by decide +kernel
theorem dX0_comesBefore_4 : decode cX0_comesBefore 4 = .ok (.iload_n 0, 1) := by decide +kernel
theorem dX0_comesBefore_5 : decode cX0_comesBefore 5 = .ok (.invokestatic 92, 3) := by decide +kernel
theorem dX0_comesBefore_8 : decode cX0_comesBefore 8 = .ok (.isub, 1) := by decide +kernel
theorem dX0_comesBefore_9 : decode cX0_comesBefore 9 = .ok (.istore_n 2, 1) := by decide +kernel
theorem dX0_comesBefore_10 : decode cX0_comesBefore 10 = .ok (.iload_n 2, 1) := by decide +kernel
theorem dX0_comesBefore_11 : decode cX0_comesBefore 11 = .ok (.ifCond .eq 13, 3) := by decide +kernel
theorem dX0_comesBefore_14 : decode cX0_comesBefore 14 = .ok (.iload_n 2, 1) := by decide +kernel
theorem dX0_comesBefore_15 : decode cX0_comesBefore 15 = .ok (.ifCond .le 7, 3) := by decide +kernel
theorem dX0_comesBefore_18 : decode cX0_comesBefore 18 = .ok (.iconst 1, 1) := by decide +kernel
theorem dX0_comesBefore_19 : decode cX0_comesBefore 19 = .ok (.goto 4, 3) := by decide +kernel
theorem dX0_comesBefore_22 : decode cX0_comesBefore 22 = .ok (.iconst 0, 1) := by decide +kernel
theorem dX0_comesBefore_23 : decode cX0_comesBefore 23 = .ok (.ireturn, 1) := by decide +kernel
theorem dX0_comesBefore_24 : decode cX0_comesBefore 24 = .ok (.iload_n 0, 1) := by decide +kernel
theorem dX0_comesBefore_25 : decode cX0_comesBefore 25 = .ok (.iload_n 1, 1) := by decide +kernel
theorem dX0_comesBefore_26 : decode cX0_comesBefore 26 = .ok (.ixor, 1) := by decide +kernel
theorem dX0_comesBefore_27 : decode cX0_comesBefore 27 = .ok (.istore_n 3, 1) := by decide +kernel
theorem dX0_comesBefore_28 : decode cX0_comesBefore 28 = .ok (.iload_n 3, 1) := by decide +kernel
theorem dX0_comesBefore_29 : decode cX0_comesBefore 29 = .ok (.invokestatic 198, 3) := by decide +kernel
theorem dX0_comesBefore_32 : decode cX0_comesBefore 32 = .ok (.iload_n 0, 1) := by decide +kernel
theorem dX0_comesBefore_33 : decode cX0_comesBefore 33 = .ok (.iand, 1) := by decide +kernel
theorem dX0_comesBefore_34 : decode cX0_comesBefore 34 = .ok (.ifCond .eq 7, 3) := by decide +kernel
theorem dX0_comesBefore_37 : decode cX0_comesBefore 37 = .ok (.iconst 1, 1) := by decide +kernel
theorem dX0_comesBefore_38 : decode cX0_comesBefore 38 = .ok (.goto 4, 3) := by decide +kernel
theorem dX0_comesBefore_41 : decode cX0_comesBefore 41 = .ok (.iconst 0, 1) := by decide +kernel
theorem dX0_comesBefore_42 : decode cX0_comesBefore 42 = .ok (.ireturn, 1) := by decide +kernel
