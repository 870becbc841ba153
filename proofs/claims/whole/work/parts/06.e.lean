theorem dX9_workTeam_23 : decode cX9_workTeam 23 = .ok (.aload_n 3, 1) := by decide +kernel
theorem dX9_workTeam_24 : decode cX9_workTeam 24 = .ok (.getfield 254, 3) := by decide +kernel
theorem dX9_workTeam_27 : decode cX9_workTeam 27 = .ok (.if_icmp .ge 33, 3) := by decide +kernel
theorem dX9_workTeam_30 : decode cX9_workTeam 30 = .ok (.aload_n 3, 1) := by decide +kernel
theorem dX9_workTeam_31 : decode cX9_workTeam 31 = .ok (.getfield 261, 3) := by decide +kernel
theorem dX9_workTeam_34 : decode cX9_workTeam 34 = .ok (.iload 5, 2) := by decide +kernel
theorem dX9_workTeam_36 : decode cX9_workTeam 36 = .ok (.aaload, 1) := by decide +kernel
theorem dX9_workTeam_37 : decode cX9_workTeam 37 = .ok (.astore 6, 2) := by decide +kernel
theorem dX9_workTeam_39 : decode cX9_workTeam 39 = .ok (.aload 6, 2) := by decide +kernel
theorem dX9_workTeam_41 : decode cX9_workTeam 41 = .ok (.ifnonnull 5, 3) := by decide +kernel
theorem dX9_workTeam_44 : decode cX9_workTeam 44 = .ok (.iconst 1, 1) := by decide +kernel
theorem dX9_workTeam_45 : decode cX9_workTeam 45 = .ok (.ireturn, 1) := by decide +kernel
theorem dX9_workTeam_46 : decode cX9_workTeam 46 = .ok (.aload 6, 2) := by decide +kernel
theorem dX9_workTeam_48 : decode cX9_workTeam 48 = .ok (.iload_n 2, 1) := by decide +kernel
theorem dX9_workTeam_49 : decode cX9_workTeam 49 = .ok (.invokevirtual 264, 3) := by decide +kernel
theorem dX9_workTeam_52 : decode cX9_workTeam 52 = .ok (.istore 4, 2) := by decide +kernel
theorem dX9_workTeam_54 : decode cX9_workTeam 54 = .ok (.iinc 5 1, 3) := by decide +kernel
theorem dX9_workTeam_57 : decode cX9_workTeam 57 = .ok (.goto (-36), 3) := by decide +kernel
theorem dX9_workTeam_60 : decode cX9_workTeam 60 = .ok (.aload_n 0, 1) := by decide +kernel
theorem dX9_workTeam_61 : decode cX9_workTeam 61 = .ok (.iload 4, 2) := by decide +kernel
theorem dX9_workTeam_63 : decode cX9_workTeam 63 = .ok (.invokevirtual 231, 3) := by decide +kernel
theorem dX9_workTeam_66 : decode cX9_workTeam 66 = .ok (.ireturn, 1) := by decide +kernel
set_option maxRecDepth 20000 in
theorem ggX9_openLedger_X9_ledgerAt : GoodIn wsX9_openLedger wsX9_ledgerAt := goodIn_r _ [9, 10, 11, 12, 13, 14, 32, 33, 34, 35, 36, 37, 38, 39, 40, 41, 42, 43, 44, 45, 46, 47, 48] (by decide +kernel) (by decide +kernel)
set_option maxRecDepth 20000 in
theorem gX9_openLedger_X9_ledgerAt : GoodIn wsX9_openLedger (wsV RX9 265 RX9 yX9_ledgerAt wsX9_ledgerAt) := goodIn_app (goodIn_of _ (by decide +kernel)) ggX9_openLedger_X9_ledgerAt
set_option maxRecDepth 20000 in
theorem ggX9_openLedger_X4_open : GoodIn wsX9_openLedger wsX4_open := goodIn_r _ [19, 20, 21, 22, 23, 24, 25, 26, 49, 50, 51] (by decide +kernel) (by decide +kernel)
set_option maxRecDepth 20000 in
theorem gX9_openLedger_X4_open : GoodIn wsX9_openLedger (wsV RX9 269 RX4 yX4_open wsX4_open) := goodIn_app (goodIn_of _ (by decide +kernel)) ggX9_openLedger_X4_open
set_option maxRecDepth 20000 in
theorem ggX9_openLedger_X9_comeTo : GoodIn wsX9_openLedger wsX9_comeTo := goodIn_r _ [30, 31, 32, 33, 34, 35, 36, 37, 38, 39, 40, 41, 42, 43, 44, 45, 46, 47, 48] (by decide +kernel) (by decide +kernel)
set_option maxRecDepth 20000 in
theorem gX9_openLedger_X9_comeTo : GoodIn wsX9_openLedger (wsV RX9 231 RX9 yX9_comeTo wsX9_comeTo) := goodIn_app (goodIn_of _ (by decide +kernel)) ggX9_openLedger_X9_comeTo
theorem dX9_openLedger_0 : decode cX9_openLedger 0 = .ok (.iload_n 2, 1) := by decide +kernel
theorem dX9_openLedger_1 : decode cX9_openLedger 1 = .ok (.ifCond .ge 5, 3) := by decide +kernel
theorem dX9_openLedger_4 : decode cX9_openLedger 4 = .ok (.iconst 2, 1) := by decide +kernel
theorem dX9_openLedger_5 : decode cX9_openLedger 5 = .ok (.ireturn, 1) := by decide +kernel
theorem dX9_openLedger_6 : decode cX9_openLedger 6 = .ok (.iload_n 2, 1) := by decide +kernel
theorem dX9_openLedger_7 : decode cX9_openLedger 7 = .ok (.bipush 12, 2) := by decide +kernel
theorem dX9_openLedger_9 : decode cX9_openLedger 9 = .ok (.invokestatic 244, 3) := by decide +kernel
theorem dX9_openLedger_12 : decode cX9_openLedger 12 = .ok (.istore_n 3, 1) := by decide +kernel
theorem dX9_openLedger_13 : decode cX9_openLedger 13 = .ok (.aload_n 0, 1) := by decide +kernel
theorem dX9_openLedger_14 : decode cX9_openLedger 14 = .ok (.iload_n 1, 1) := by decide +kernel
theorem dX9_openLedger_15 : decode cX9_openLedger 15 = .ok (.invokevirtual 265, 3) := by decide +kernel
theorem dX9_openLedger_18 : decode cX9_openLedger 18 = .ok (.iload_n 3, 1) := by decide +kernel
theorem dX9_openLedger_19 : decode cX9_openLedger 19 = .ok (.invokevirtual 269, 3) := by decide +kernel
theorem dX9_openLedger_22 : decode cX9_openLedger 22 = .ok (.aload_n 0, 1) := by decide +kernel
theorem dX9_openLedger_23 : decode cX9_openLedger 23 = .ok (.iload_n 3, 1) := by decide +kernel
theorem dX9_openLedger_24 : decode cX9_openLedger 24 = .ok (.invokevirtual 231, 3) := by decide +kernel
theorem dX9_openLedger_27 : decode cX9_openLedger 27 = .ok (.ireturn, 1) := by decide +kernel
set_option maxRecDepth 20000 in
theorem ggX9_addInLedger_X9_ledgerAt : GoodIn wsX9_addInLedger wsX9_ledgerAt := goodIn_r _ [8, 9, 10, 11, 12, 13, 25, 26, 27, 28, 29, 30, 31, 32, 33, 34, 35, 36, 37, 38, 39, 40, 41] (by decide +kernel) (by decide +kernel)
set_option maxRecDepth 20000 in
theorem gX9_addInLedger_X9_ledgerAt : GoodIn wsX9_addInLedger (wsV RX9 265 RX9 yX9_ledgerAt wsX9_ledgerAt) := goodIn_app (goodIn_of _ (by decide +kernel)) ggX9_addInLedger_X9_ledgerAt
set_option maxRecDepth 20000 in
theorem ggX9_addInLedger_X9_within : GoodIn wsX9_addInLedger wsX9_within := goodIn_r _ [16] (by decide +kernel) (by decide +kernel)
set_option maxRecDepth 20000 in
theorem gX9_addInLedger_X9_within : GoodIn wsX9_addInLedger (va_wsS RX9 63 yX9_within wsX9_within) := goodIn_app (goodIn_of _ (by decide +kernel)) ggX9_addInLedger_X9_within
set_option maxRecDepth 20000 in
theorem ggX9_addInLedger_X9_comeTo : GoodIn wsX9_addInLedger wsX9_comeTo := goodIn_r _ [20, 21, 25, 26, 27, 28, 29, 30, 31, 32, 33, 34, 35, 36, 37, 38, 39, 40, 41] (by decide +kernel) (by decide +kernel)
set_option maxRecDepth 20000 in
theorem gX9_addInLedger_X9_comeTo : GoodIn wsX9_addInLedger (wsV RX9 231 RX9 yX9_comeTo wsX9_comeTo) := goodIn_app (goodIn_of _ (by decide +kernel)) ggX9_addInLedger_X9_comeTo
theorem dX9_addInLedger_0 : decode cX9_addInLedger 0 = .ok (.aload_n 0, 1) := by decide +kernel
theorem dX9_addInLedger_1 : decode cX9_addInLedger 1 = .ok (.iload_n 1, 1) := by decide +kernel
theorem dX9_addInLedger_2 : decode cX9_addInLedger 2 = .ok (.invokevirtual 265, 3) := by decide +kernel
theorem dX9_addInLedger_5 : decode cX9_addInLedger 5 = .ok (.astore 4, 2) := by decide +kernel
theorem dX9_addInLedger_7 : decode cX9_addInLedger 7 = .ok (.aload 4, 2) := by decide +kernel
theorem dX9_addInLedger_9 : decode cX9_addInLedger 9 = .ok (.getfield 161, 3) := by decide +kernel
theorem dX9_addInLedger_12 : decode cX9_addInLedger 12 = .ok (.ifCond .ne 5, 3) := by decide +kernel
theorem dX9_addInLedger_15 : decode cX9_addInLedger 15 = .ok (.iconst 1, 1) := by decide +kernel
theorem dX9_addInLedger_16 : decode cX9_addInLedger 16 = .ok (.ireturn, 1) := by decide +kernel
theorem dX9_addInLedger_17 : decode cX9_addInLedger 17 = .ok (.iload_n 2, 1) := by decide +kernel
theorem dX9_addInLedger_18 : decode cX9_addInLedger 18 = .ok (.aload 4, 2) := by decide +kernel
theorem dX9_addInLedger_20 : decode cX9_addInLedger 20 = .ok (.getfield 272, 3) := by decide +kernel
theorem dX9_addInLedger_23 : decode cX9_addInLedger 23 = .ok (.invokestatic 63, 3) := by decide +kernel
theorem dX9_addInLedger_26 : decode cX9_addInLedger 26 = .ok (.ifCond .ne 5, 3) := by decide +kernel
theorem dX9_addInLedger_29 : decode cX9_addInLedger 29 = .ok (.iconst 5, 1) := by decide +kernel
theorem dX9_addInLedger_30 : decode cX9_addInLedger 30 = .ok (.ireturn, 1) := by decide +kernel
theorem dX9_addInLedger_31 : decode cX9_addInLedger 31 = .ok (.aload 4, 2) := by decide +kernel
theorem dX9_addInLedger_33 : decode cX9_addInLedger 33 = .ok (.getfield 273, 3) := by decide +kernel
theorem dX9_addInLedger_36 : decode cX9_addInLedger 36 = .ok (.iload_n 2, 1) := by decide +kernel
theorem dX9_addInLedger_37 : decode cX9_addInLedger 37 = .ok (.dup2, 1) := by decide +kernel
theorem dX9_addInLedger_38 : decode cX9_addInLedger 38 = .ok (.iaload, 1) := by decide +kernel
theorem dX9_addInLedger_39 : decode cX9_addInLedger 39 = .ok (.iload_n 3, 1) := by decide +kernel
theorem dX9_addInLedger_40 : decode cX9_addInLedger 40 = .ok (.iadd, 1) := by decide +kernel
theorem dX9_addInLedger_41 : decode cX9_addInLedger 41 = .ok (.iastore, 1) := by decide +kernel
theorem dX9_addInLedger_42 : decode cX9_addInLedger 42 = .ok (.aload_n 0, 1) := by decide +kernel
theorem dX9_addInLedger_43 : decode cX9_addInLedger 43 = .ok (.aload 4, 2) := by decide +kernel
theorem dX9_addInLedger_45 : decode cX9_addInLedger 45 = .ok (.getfield 273, 3) := by decide +kernel
theorem dX9_addInLedger_48 : decode cX9_addInLedger 48 = .ok (.iload_n 2, 1) := by decide +kernel
theorem dX9_addInLedger_49 : decode cX9_addInLedger 49 = .ok (.iaload, 1) := by decide +kernel
theorem dX9_addInLedger_50 : decode cX9_addInLedger 50 = .ok (.invokevirtual 231, 3) := by decide +kernel
theorem dX9_addInLedger_53 : decode cX9_addInLedger 53 = .ok (.ireturn, 1) := by decide +kernel
set_option maxRecDepth 20000 in
theorem ggX9_sumLedger_X9_ledgerAt : GoodIn wsX9_sumLedger wsX9_ledgerAt := goodIn_r _ [6, 7, 8, 9, 10, 11, 27, 28, 29, 30, 31, 32, 33, 34, 35, 36, 37, 38, 39, 40, 41, 42, 43] (by decide +kernel) (by decide +kernel)
set_option maxRecDepth 20000 in
theorem gX9_sumLedger_X9_ledgerAt : GoodIn wsX9_sumLedger (wsV RX9 265 RX9 yX9_ledgerAt wsX9_ledgerAt) := goodIn_app (goodIn_of _ (by decide +kernel)) ggX9_sumLedger_X9_ledgerAt
set_option maxRecDepth 20000 in
theorem ggX9_sumLedger_X4_sum : GoodIn wsX9_sumLedger wsX4_sum := goodIn_r _ [16, 17, 18, 24, 25, 26] (by decide +kernel) (by decide +kernel)
set_option maxRecDepth 20000 in
theorem gX9_sumLedger_X4_sum : GoodIn wsX9_sumLedger (wsV RX9 276 RX4 yX4_sum wsX4_sum) := goodIn_app (goodIn_of _ (by decide +kernel)) ggX9_sumLedger_X4_sum
set_option maxRecDepth 20000 in
theorem ggX9_sumLedger_X9_comeTo : GoodIn wsX9_sumLedger wsX9_comeTo := goodIn_r _ [22, 23, 27, 28, 29, 30, 31, 32, 33, 34, 35, 36, 37, 38, 39, 40, 41, 42, 43] (by decide +kernel) (by decide +kernel)
set_option maxRecDepth 20000 in
theorem gX9_sumLedger_X9_comeTo : GoodIn wsX9_sumLedger (wsV RX9 231 RX9 yX9_comeTo wsX9_comeTo) := goodIn_app (goodIn_of _ (by decide +kernel)) ggX9_sumLedger_X9_comeTo
theorem dX9_sumLedger_0 : decode cX9_sumLedger 0 = .ok (.aload_n 0, 1) := by decide +kernel
theorem dX9_sumLedger_1 : decode cX9_sumLedger 1 = .ok (.iload_n 1, 1) := by decide +kernel
theorem dX9_sumLedger_2 : decode cX9_sumLedger 2 = .ok (.invokevirtual 265, 3) := by decide +kernel
theorem dX9_sumLedger_5 : decode cX9_sumLedger 5 = .ok (.astore_n 2, 1) := by decide +kernel
theorem dX9_sumLedger_6 : decode cX9_sumLedger 6 = .ok (.aload_n 2, 1) := by decide +kernel
theorem dX9_sumLedger_7 : decode cX9_sumLedger 7 = .ok (.getfield 161, 3) := by decide +kernel
theorem dX9_sumLedger_10 : decode cX9_sumLedger 10 = .ok (.ifCond .eq 14, 3) := by decide +kernel
theorem dX9_sumLedger_13 : decode cX9_sumLedger 13 = .ok (.aload_n 0, 1) := by decide +kernel
theorem dX9_sumLedger_14 : decode cX9_sumLedger 14 = .ok (.aload_n 2, 1) := by decide +kernel
theorem dX9_sumLedger_15 : decode cX9_sumLedger 15 = .ok (.invokevirtual 276, 3) := by decide +kernel
theorem dX9_sumLedger_18 : decode cX9_sumLedger 18 = .ok (.invokevirtual 231, 3) := by decide +kernel
theorem dX9_sumLedger_21 : decode cX9_sumLedger 21 = .ok (.goto 4, 3) := by decide +kernel
theorem dX9_sumLedger_24 : decode cX9_sumLedger 24 = .ok (.iconst 1, 1) := by decide +kernel
theorem dX9_sumLedger_25 : decode cX9_sumLedger 25 = .ok (.ireturn, 1) := by decide +kernel
set_option maxRecDepth 20000 in
theorem ggX9_setTable_X9_tableAt : GoodIn wsX9_setTable wsX9_tableAt := goodIn_r _ [9, 10, 11, 12, 13, 14, 34, 35, 36, 37, 38, 39, 40, 41, 42, 43, 44, 45, 46, 47, 48, 49, 50] (by decide +kernel) (by decide +kernel)
set_option maxRecDepth 20000 in
theorem gX9_setTable_X9_tableAt : GoodIn wsX9_setTable (wsV RX9 279 RX9 yX9_tableAt wsX9_tableAt) := goodIn_app (goodIn_of _ (by decide +kernel)) ggX9_setTable_X9_tableAt
set_option maxRecDepth 20000 in
theorem ggX9_setTable_X5_set : GoodIn wsX9_setTable wsX5_set := goodIn_r _ [19, 20, 21, 22, 23, 24, 25, 26, 27, 28, 51, 52, 53, 54, 55] (by decide +kernel) (by decide +kernel)
set_option maxRecDepth 20000 in
theorem gX9_setTable_X5_set : GoodIn wsX9_setTable (wsV RX9 283 RX5 yX5_set wsX5_set) := goodIn_app (goodIn_of _ (by decide +kernel)) ggX9_setTable_X5_set
set_option maxRecDepth 20000 in
theorem ggX9_setTable_X9_comeTo : GoodIn wsX9_setTable wsX9_comeTo := goodIn_r _ [32, 33, 34, 35, 36, 37, 38, 39, 40, 41, 42, 43, 44, 45, 46, 47, 48, 49, 50] (by decide +kernel) (by decide +kernel)
set_option maxRecDepth 20000 in
theorem gX9_setTable_X9_comeTo : GoodIn wsX9_setTable (wsV RX9 231 RX9 yX9_comeTo wsX9_comeTo) := goodIn_app (goodIn_of _ (by decide +kernel)) ggX9_setTable_X9_comeTo
theorem dX9_setTable_0 : decode cX9_setTable 0 = .ok (.iload_n 2, 1) := by decide +kernel
theorem dX9_setTable_1 : decode cX9_setTable 1 = .ok (.ifCond .lt 7, 3) := by decide +kernel
theorem dX9_setTable_4 : decode cX9_setTable 4 = .ok (.iload_n 3, 1) := by decide +kernel
theorem dX9_setTable_5 : decode cX9_setTable 5 = .ok (.ifCond .ge 5, 3) := by decide +kernel
theorem dX9_setTable_8 : decode cX9_setTable 8 = .ok (.iconst 2, 1) := by decide +kernel
theorem dX9_setTable_9 : decode cX9_setTable 9 = .ok (.ireturn, 1) := by decide +kernel
theorem dX9_setTable_10 : decode cX9_setTable 10 = .ok (.aload_n 0, 1) := by decide +kernel
theorem dX9_setTable_11 : decode cX9_setTable 11 = .ok (.iload_n 1, 1) := by decide +kernel
theorem dX9_setTable_12 : decode cX9_setTable 12 = .ok (.invokevirtual 279, 3) := by decide +kernel
theorem dX9_setTable_15 : decode cX9_setTable 15 = .ok (.iload_n 2, 1) := by decide +kernel
theorem dX9_setTable_16 : decode cX9_setTable 16 = .ok (.bipush 6, 2) := by decide +kernel
theorem dX9_setTable_18 : decode cX9_setTable 18 = .ok (.invokestatic 244, 3) := by decide +kernel
theorem dX9_setTable_21 : decode cX9_setTable 21 = .ok (.iload_n 3, 1) := by decide +kernel
theorem dX9_setTable_22 : decode cX9_setTable 22 = .ok (.bipush 6, 2) := by decide +kernel
theorem dX9_setTable_24 : decode cX9_setTable 24 = .ok (.invokestatic 244, 3) := by decide +kernel
theorem dX9_setTable_27 : decode cX9_setTable 27 = .ok (.invokevirtual 283, 3) := by decide +kernel
theorem dX9_setTable_30 : decode cX9_setTable 30 = .ok (.aload_n 0, 1) := by decide +kernel
theorem dX9_setTable_31 : decode cX9_setTable 31 = .ok (.iconst 1, 1) := by decide +kernel
theorem dX9_setTable_32 : decode cX9_setTable 32 = .ok (.invokevirtual 231, 3) := by decide +kernel
theorem dX9_setTable_35 : decode cX9_setTable 35 = .ok (.ireturn, 1) := by decide +kernel
set_option maxRecDepth 20000 in
theorem ggX9_markTable_X9_tableAt : GoodIn wsX9_markTable wsX9_tableAt := goodIn_r _ [10, 11, 12, 13, 14, 15, 29, 30, 31, 32, 33, 34, 35, 36, 37, 38, 39, 40, 41, 42, 43, 44, 45] (by decide +kernel) (by decide +kernel)
set_option maxRecDepth 20000 in
theorem gX9_markTable_X9_tableAt : GoodIn wsX9_markTable (wsV RX9 279 RX9 yX9_tableAt wsX9_tableAt) := goodIn_app (goodIn_of _ (by decide +kernel)) ggX9_markTable_X9_tableAt
set_option maxRecDepth 20000 in
theorem ggX9_markTable_X9_within : GoodIn wsX9_markTable wsX9_within := goodIn_r _ [18] (by decide +kernel) (by decide +kernel)
set_option maxRecDepth 20000 in
theorem gX9_markTable_X9_within : GoodIn wsX9_markTable (va_wsS RX9 63 yX9_within wsX9_within) := goodIn_app (goodIn_of _ (by decide +kernel)) ggX9_markTable_X9_within
set_option maxRecDepth 20000 in
theorem ggX9_markTable_X9_comeTo : GoodIn wsX9_markTable wsX9_comeTo := goodIn_r _ [22, 23, 29, 30, 31, 32, 33, 34, 35, 36, 37, 38, 39, 40, 41, 42, 43, 44, 45] (by decide +kernel) (by decide +kernel)
set_option maxRecDepth 20000 in
theorem gX9_markTable_X9_comeTo : GoodIn wsX9_markTable (wsV RX9 231 RX9 yX9_comeTo wsX9_comeTo) := goodIn_app (goodIn_of _ (by decide +kernel)) ggX9_markTable_X9_comeTo
theorem dX9_markTable_0 : decode cX9_markTable 0 = .ok (.aload_n 0, 1) := by decide +kernel
theorem dX9_markTable_1 : decode cX9_markTable 1 = .ok (.iload_n 1, 1) := by decide +kernel
theorem dX9_markTable_2 : decode cX9_markTable 2 = .ok (.invokevirtual 279, 3) := by decide +kernel
theorem dX9_markTable_5 : decode cX9_markTable 5 = .ok (.astore 4, 2) := by decide +kernel
theorem dX9_markTable_7 : decode cX9_markTable 7 = .ok (.aload 4, 2) := by decide +kernel
theorem dX9_markTable_9 : decode cX9_markTable 9 = .ok (.getfield 99, 3) := by decide +kernel
theorem dX9_markTable_12 : decode cX9_markTable 12 = .ok (.ifCond .ne 5, 3) := by decide +kernel
theorem dX9_markTable_15 : decode cX9_markTable 15 = .ok (.iconst 1, 1) := by decide +kernel
theorem dX9_markTable_16 : decode cX9_markTable 16 = .ok (.ireturn, 1) := by decide +kernel
theorem dX9_markTable_17 : decode cX9_markTable 17 = .ok (.iload_n 2, 1) := by decide +kernel
theorem dX9_markTable_18 : decode cX9_markTable 18 = .ok (.aload 4, 2) := by decide +kernel
theorem dX9_markTable_20 : decode cX9_markTable 20 = .ok (.getfield 103, 3) := by decide +kernel
theorem dX9_markTable_23 : decode cX9_markTable 23 = .ok (.invokestatic 63, 3) := by decide +kernel
theorem dX9_markTable_26 : decode cX9_markTable 26 = .ok (.ifCond .ne 5, 3) := by decide +kernel
theorem dX9_markTable_29 : decode cX9_markTable 29 = .ok (.iconst 5, 1) := by decide +kernel
theorem dX9_markTable_30 : decode cX9_markTable 30 = .ok (.ireturn, 1) := by decide +kernel
theorem dX9_markTable_31 : decode cX9_markTable 31 = .ok (.aload 4, 2) := by decide +kernel
theorem dX9_markTable_33 : decode cX9_markTable 33 = .ok (.getfield 106, 3) := by decide +kernel
theorem dX9_markTable_36 : decode cX9_markTable 36 = .ok (.iload_n 2, 1) := by decide +kernel
theorem dX9_markTable_37 : decode cX9_markTable 37 = .ok (.baload, 1) := by decide +kernel
theorem dX9_markTable_38 : decode cX9_markTable 38 = .ok (.ifCond .ne 5, 3) := by decide +kernel
theorem dX9_markTable_41 : decode cX9_markTable 41 = .ok (.iconst 1, 1) := by decide +kernel
theorem dX9_markTable_42 : decode cX9_markTable 42 = .ok (.ireturn, 1) := by decide +kernel
theorem dX9_markTable_43 : decode cX9_markTable 43 = .ok (.iload_n 3, 1) := by decide +kernel
theorem dX9_markTable_44 : decode cX9_markTable 44 = .ok (.aload 4, 2) := by decide +kernel
theorem dX9_markTable_46 : decode cX9_markTable 46 = .ok (.getfield 286, 3) := by decide +kernel
theorem dX9_markTable_49 : decode cX9_markTable 49 = .ok (.invokestatic 63, 3) := by decide +kernel
theorem dX9_markTable_52 : decode cX9_markTable 52 = .ok (.ifCond .ne 5, 3) := by decide +kernel
theorem dX9_markTable_55 : decode cX9_markTable 55 = .ok (.iconst 5, 1) := by decide +kernel
theorem dX9_markTable_56 : decode cX9_markTable 56 = .ok (.ireturn, 1) := by decide +kernel
theorem dX9_markTable_57 : decode cX9_markTable 57 = .ok (.aload 4, 2) := by decide +kernel
theorem dX9_markTable_59 : decode cX9_markTable 59 = .ok (.getfield 289, 3) := by decide +kernel
theorem dX9_markTable_62 : decode cX9_markTable 62 = .ok (.iload_n 2, 1) := by decide +kernel
theorem dX9_markTable_63 : decode cX9_markTable 63 = .ok (.aaload, 1) := by decide +kernel
theorem dX9_markTable_64 : decode cX9_markTable 64 = .ok (.iload_n 3, 1) := by decide +kernel
theorem dX9_markTable_65 : decode cX9_markTable 65 = .ok (.dup2, 1) := by decide +kernel
theorem dX9_markTable_66 : decode cX9_markTable 66 = .ok (.iaload, 1) := by decide +kernel
theorem dX9_markTable_67 : decode cX9_markTable 67 = .ok (.iconst 1, 1) := by decide +kernel
theorem dX9_markTable_68 : decode cX9_markTable 68 = .ok (.iadd, 1) := by decide +kernel
theorem dX9_markTable_69 : decode cX9_markTable 69 = .ok (.iastore, 1) := by decide +kernel
theorem dX9_markTable_70 : decode cX9_markTable 70 = .ok (.aload_n 0, 1) := by decide +kernel
theorem dX9_markTable_71 : decode cX9_markTable 71 = .ok (.aload 4, 2) := by decide +kernel
theorem dX9_markTable_73 : decode cX9_markTable 73 = .ok (.getfield 289, 3) := by decide +kernel
theorem dX9_markTable_76 : decode cX9_markTable 76 = .ok (.iload_n 2, 1) := by decide +kernel
theorem dX9_markTable_77 : decode cX9_markTable 77 = .ok (.aaload, 1) := by decide +kernel
theorem dX9_markTable_78 : decode cX9_markTable 78 = .ok (.iload_n 3, 1) := by decide +kernel
theorem dX9_markTable_79 : decode cX9_markTable 79 = .ok (.iaload, 1) := by decide +kernel
theorem dX9_markTable_80 : decode cX9_markTable 80 = .ok (.invokevirtual 231, 3) := by decide +kernel
theorem dX9_markTable_83 : decode cX9_markTable 83 = .ok (.ireturn, 1) := by decide +kernel
set_option maxRecDepth 20000 in
theorem ggX9_raiseAlarm_J9_floorMod_7cf53 : GoodIn wsX9_raiseAlarm wsJ9_floorMod_7cf53 := goodIn_r _ [7] (by decide +kernel) (by decide +kernel)
set_option maxRecDepth 20000 in
theorem gX9_raiseAlarm_J9_floorMod_7cf53 : GoodIn wsX9_raiseAlarm (va_wsS RX9 222 yJ9_floorMod_7cf53 wsJ9_floorMod_7cf53) := goodIn_app (goodIn_of _ (by decide +kernel)) ggX9_raiseAlarm_J9_floorMod_7cf53
theorem dX9_raiseAlarm_0 : decode cX9_raiseAlarm 0 = .ok (.aload_n 0, 1) := by decide +kernel
theorem dX9_raiseAlarm_1 : decode cX9_raiseAlarm 1 = .ok (.getfield 41, 3) := by decide +kernel
theorem dX9_raiseAlarm_4 : decode cX9_raiseAlarm 4 = .ok (.iload_n 1, 1) := by decide +kernel
theorem dX9_raiseAlarm_5 : decode cX9_raiseAlarm 5 = .ok (.bipush 6, 2) := by decide +kernel
theorem dX9_raiseAlarm_7 : decode cX9_raiseAlarm 7 = .ok (.invokestatic 222, 3) := by decide +kernel
theorem dX9_raiseAlarm_10 : decode cX9_raiseAlarm 10 = .ok (.aaload, 1) := by decide +kernel
theorem dX9_raiseAlarm_11 : decode cX9_raiseAlarm 11 = .ok (.astore_n 2, 1) := by decide +kernel
theorem dX9_raiseAlarm_12 : decode cX9_raiseAlarm 12 = .ok (.aload_n 2, 1) := by decide +kernel
theorem dX9_raiseAlarm_13 : decode cX9_raiseAlarm 13 = .ok (.ifnonnull 5, 3) := by decide +kernel
theorem dX9_raiseAlarm_16 : decode cX9_raiseAlarm 16 = .ok (.iconst 1, 1) := by decide +kernel
theorem dX9_raiseAlarm_17 : decode cX9_raiseAlarm 17 = .ok (.ireturn, 1) := by decide +kernel
theorem dX9_raiseAlarm_18 : decode cX9_raiseAlarm 18 = .ok (.aload_n 0, 1) := by decide +kernel
theorem dX9_raiseAlarm_19 : decode cX9_raiseAlarm 19 = .ok (.aload_n 2, 1) := by decide +kernel
theorem dX9_raiseAlarm_20 : decode cX9_raiseAlarm 20 = .ok (.getfield 292, 3) := by decide +kernel
theorem dX9_raiseAlarm_23 : decode cX9_raiseAlarm 23 = .ok (.putfield 118, 3) := by decide +kernel
theorem dX9_raiseAlarm_26 : decode cX9_raiseAlarm 26 = .ok (.bipush 6, 2) := by decide +kernel
theorem dX9_raiseAlarm_28 : decode cX9_raiseAlarm 28 = .ok (.ireturn, 1) := by decide +kernel
theorem dX10_init_0 : decode cX10_init 0 = .ok (.aload_n 0, 1) := by decide +kernel
theorem dX10_init_1 : decode cX10_init 1 = .ok (.invokespecial 1, 3) := by decide +kernel
theorem dX10_init_4 : decode cX10_init 4 = .ok (.aload_n 0, 1) := by decide +kernel
theorem dX10_init_5 : decode cX10_init 5 = .ok (.bipush 60, 2) := by decide +kernel
theorem dX10_init_7 : decode cX10_init 7 = .ok (.newarray .int, 2) := by decide +kernel
theorem dX10_init_9 : decode cX10_init 9 = .ok (.putfield 7, 3) := by decide +kernel
theorem dX10_init_12 : decode cX10_init 12 = .ok (.aload_n 0, 1) := by decide +kernel
theorem dX10_init_13 : decode cX10_init 13 = .ok (.bipush 60, 2) := by decide +kernel
theorem dX10_init_15 : decode cX10_init 15 = .ok (.newarray .int, 2) := by decide +kernel
theorem dX10_init_17 : decode cX10_init 17 = .ok (.putfield 13, 3) := by decide +kernel
theorem dX10_init_20 : decode cX10_init 20 = .ok (.aload_n 0, 1) := by decide +kernel
theorem dX10_init_21 : decode cX10_init 21 = .ok (.bipush 60, 2) := by decide +kernel
theorem dX10_init_23 : decode cX10_init 23 = .ok (.newarray .int, 2) := by decide +kernel
theorem dX10_init_25 : decode cX10_init 25 = .ok (.putfield 16, 3) := by decide +kernel
theorem dX10_init_28 : decode cX10_init 28 = .ok (.aload_n 0, 1) := by decide +kernel
theorem dX10_init_29 : decode cX10_init 29 = .ok (.bipush 60, 2) := by decide +kernel
theorem dX10_init_31 : decode cX10_init 31 = .ok (.newarray .int, 2) := by decide +kernel
theorem dX10_init_33 : decode cX10_init 33 = .ok (.putfield 19, 3) := by decide +kernel
theorem dX10_init_36 : decode cX10_init 36 = .ok (.aload_n 0, 1) := by decide +kernel
theorem dX10_init_37 : decode cX10_init 37 = .ok (.bipush 60, 2) := by decide +kernel
theorem dX10_init_39 : decode cX10_init 39 = .ok (.newarray .int, 2) := by decide +kernel
theorem dX10_init_41 : decode cX10_init 41 = .ok (.putfield 22, 3) := by decide +kernel
theorem dX10_init_44 : decode cX10_init 44 = .ok (.aload_n 0, 1) := by decide +kernel
theorem dX10_init_45 : decode cX10_init 45 = .ok (.bipush 60, 2) := by decide +kernel
theorem dX10_init_47 : decode cX10_init 47 = .ok (.newarray .int, 2) := by decide +kernel
theorem dX10_init_49 : decode cX10_init 49 = .ok (.putfield 25, 3) := by decide +kernel
theorem dX10_init_52 : decode cX10_init 52 = .ok (.aload_n 0, 1) := by decide +kernel
theorem dX10_init_53 : decode cX10_init 53 = .ok (.bipush 60, 2) := by decide +kernel
theorem dX10_init_55 : decode cX10_init 55 = .ok (.newarray .int, 2) := by decide +kernel
theorem dX10_init_57 : decode cX10_init 57 = .ok (.putfield 28, 3) := by decide +kernel
theorem dX10_init_60 : decode cX10_init 60 = .ok (.aload_n 0, 1) := by decide +kernel
theorem dX10_init_61 : decode cX10_init 61 = .ok (.bipush 60, 2) := by decide +kernel
theorem dX10_init_63 : decode cX10_init 63 = .ok (.newarray .int, 2) := by decide +kernel
theorem dX10_init_65 : decode cX10_init 65 = .ok (.putfield 31, 3) := by decide +kernel
theorem dX10_init_68 : decode cX10_init 68 = .ok (.aload_n 0, 1) := by decide +kernel
theorem dX10_init_69 : decode cX10_init 69 = .ok (.bipush 10, 2) := by decide +kernel
theorem dX10_init_71 : decode cX10_init 71 = .ok (.newarray .int, 2) := by decide +kernel
theorem dX10_init_73 : decode cX10_init 73 = .ok (.putfield 34, 3) := by decide +kernel
theorem dX10_init_76 : decode cX10_init 76 = .ok (.aload_n 0, 1) := by decide +kernel
theorem dX10_init_77 : decode cX10_init 77 = .ok (.bipush 6, 2) := by decide +kernel
theorem dX10_init_79 : decode cX10_init 79 = .ok (.newarray .int, 2) := by decide +kernel
theorem dX10_init_81 : decode cX10_init 81 = .ok (.putfield 37, 3) := by decide +kernel
theorem dX10_init_84 : decode cX10_init 84 = .ok (.aload_n 0, 1) := by decide +kernel
theorem dX10_init_85 : decode cX10_init 85 = .ok (.bipush 6, 2) := by decide +kernel
theorem dX10_init_87 : decode cX10_init 87 = .ok (.newarray .int, 2) := by decide +kernel
theorem dX10_init_89 : decode cX10_init 89 = .ok (.putfield 40, 3) := by decide +kernel
theorem dX10_init_92 : decode cX10_init 92 = .ok (.aload_n 0, 1) := by decide +kernel
theorem dX10_init_93 : decode cX10_init 93 = .ok (.bipush 6, 2) := by decide +kernel
theorem dX10_init_95 : decode cX10_init 95 = .ok (.newarray .int, 2) := by decide +kernel
theorem dX10_init_97 : decode cX10_init 97 = .ok (.putfield 43, 3) := by decide +kernel
theorem dX10_init_100 : decode cX10_init 100 = .ok (.aload_n 0, 1) := by decide +kernel
theorem dX10_init_101 : decode cX10_init 101 = .ok (.bipush 48, 2) := by decide +kernel
theorem dX10_init_103 : decode cX10_init 103 = .ok (.newarray .int, 2) := by decide +kernel
theorem dX10_init_105 : decode cX10_init 105 = .ok (.putfield 46, 3) := by decide +kernel
theorem dX10_init_108 : decode cX10_init 108 = .ok (.aload_n 0, 1) := by decide +kernel
theorem dX10_init_109 : decode cX10_init 109 = .ok (.iconst 4, 1) := by decide +kernel
theorem dX10_init_110 : decode cX10_init 110 = .ok (.newarray .int, 2) := by decide +kernel
theorem dX10_init_112 : decode cX10_init 112 = .ok (.putfield 49, 3) := by decide +kernel
theorem dX10_init_115 : decode cX10_init 115 = .ok (.aload_n 0, 1) := by decide +kernel
theorem dX10_init_116 : decode cX10_init 116 = .ok (.bipush 48, 2) := by decide +kernel
theorem dX10_init_118 : decode cX10_init 118 = .ok (.newarray .int, 2) := by decide +kernel
theorem dX10_init_120 : decode cX10_init 120 = .ok (.putfield 52, 3) := by decide +kernel
theorem dX10_init_123 : decode cX10_init 123 = .ok (.aload_n 0, 1) := by decide +kernel
theorem dX10_init_124 : decode cX10_init 124 = .ok (.iconst 4, 1) := by decide +kernel
theorem dX10_init_125 : decode cX10_init 125 = .ok (.newarray .int, 2) := by decide +kernel
theorem dX10_init_127 : decode cX10_init 127 = .ok (.putfield 55, 3) := by decide +kernel
theorem dX10_init_130 : decode cX10_init 130 = .ok (.aload_n 0, 1) := by decide +kernel
theorem dX10_init_131 : decode cX10_init 131 = .ok (.iconst 4, 1) := by decide +kernel
theorem dX10_init_132 : decode cX10_init 132 = .ok (.newarray .int, 2) := by decide +kernel
theorem dX10_init_134 : decode cX10_init 134 = .ok (.putfield 58, 3) := by decide +kernel
theorem dX10_init_137 : decode cX10_init 137 = .ok (.aload_n 0, 1) := by decide +kernel
theorem dX10_init_138 : decode cX10_init 138 = .ok (.bipush 24, 2) := by decide +kernel
theorem dX10_init_140 : decode cX10_init 140 = .ok (.newarray .boolean, 2) := by decide +kernel
theorem dX10_init_142 : decode cX10_init 142 = .ok (.putfield 61, 3) := by decide +kernel
theorem dX10_init_145 : decode cX10_init 145 = .ok (.aload_n 0, 1) := by decide +kernel
theorem dX10_init_146 : decode cX10_init 146 = .ok (.sipush 144, 3) := by decide +kernel
theorem dX10_init_149 : decode cX10_init 149 = .ok (.newarray .int, 2) := by decide +kernel
theorem dX10_init_151 : decode cX10_init 151 = .ok (.putfield 65, 3) := by decide +kernel
theorem dX10_init_154 : decode cX10_init 154 = .ok (.aload_n 0, 1) := by decide +kernel
theorem dX10_init_155 : decode cX10_init 155 = .ok (.bipush 6, 2) := by decide +kernel
theorem dX10_init_157 : decode cX10_init 157 = .ok (.newarray .boolean, 2) := by decide +kernel
theorem dX10_init_159 : decode cX10_init 159 = .ok (.putfield 68, 3) := by decide +kernel
theorem dX10_init_162 : decode cX10_init 162 = .ok (.aload_n 0, 1) := by decide +kernel
theorem dX10_init_163 : decode cX10_init 163 = .ok (.bipush 6, 2) := by decide +kernel
theorem dX10_init_165 : decode cX10_init 165 = .ok (.newarray .int, 2) := by decide +kernel
theorem dX10_init_167 : decode cX10_init 167 = .ok (.putfield 71, 3) := by decide +kernel
theorem dX10_init_170 : decode cX10_init 170 = .ok (.aload_n 0, 1) := by decide +kernel
theorem dX10_init_171 : decode cX10_init 171 = .ok (.bipush 20, 2) := by decide +kernel
theorem dX10_init_173 : decode cX10_init 173 = .ok (.newarray .int, 2) := by decide +kernel
theorem dX10_init_175 : decode cX10_init 175 = .ok (.putfield 74, 3) := by decide +kernel
theorem dX10_init_178 : decode cX10_init 178 = .ok (.aload_n 0, 1) := by decide +kernel
theorem dX10_init_179 : decode cX10_init 179 = .ok (.bipush 20, 2) := by decide +kernel
theorem dX10_init_181 : decode cX10_init 181 = .ok (.newarray .int, 2) := by decide +kernel
theorem dX10_init_183 : decode cX10_init 183 = .ok (.putfield 77, 3) := by decide +kernel
theorem dX10_init_186 : decode cX10_init 186 = .ok (.aload_n 0, 1) := by decide +kernel
theorem dX10_init_187 : decode cX10_init 187 = .ok (.bipush 20, 2) := by decide +kernel
theorem dX10_init_189 : decode cX10_init 189 = .ok (.newarray .int, 2) := by decide +kernel
theorem dX10_init_191 : decode cX10_init 191 = .ok (.putfield 80, 3) := by decide +kernel
theorem dX10_init_194 : decode cX10_init 194 = .ok (.aload_n 0, 1) := by decide +kernel
theorem dX10_init_195 : decode cX10_init 195 = .ok (.bipush 20, 2) := by decide +kernel
theorem dX10_init_197 : decode cX10_init 197 = .ok (.newarray .int, 2) := by decide +kernel
theorem dX10_init_199 : decode cX10_init 199 = .ok (.putfield 83, 3) := by decide +kernel
theorem dX10_init_202 : decode cX10_init 202 = .ok (.aload_n 0, 1) := by decide +kernel
theorem dX10_init_203 : decode cX10_init 203 = .ok (.bipush 40, 2) := by decide +kernel
theorem dX10_init_205 : decode cX10_init 205 = .ok (.newarray .int, 2) := by decide +kernel
theorem dX10_init_207 : decode cX10_init 207 = .ok (.putfield 86, 3) := by decide +kernel
theorem dX10_init_210 : decode cX10_init 210 = .ok (.aload_n 0, 1) := by decide +kernel
theorem dX10_init_211 : decode cX10_init 211 = .ok (.bipush 40, 2) := by decide +kernel
theorem dX10_init_213 : decode cX10_init 213 = .ok (.newarray .int, 2) := by decide +kernel
theorem dX10_init_215 : decode cX10_init 215 = .ok (.putfield 89, 3) := by decide +kernel
theorem dX10_init_218 : decode cX10_init 218 = .ok (.aload_n 0, 1) := by decide +kernel
theorem dX10_init_219 : decode cX10_init 219 = .ok (.bipush 7, 2) := by decide +kernel
theorem dX10_init_221 : decode cX10_init 221 = .ok (.newarray .int, 2) := by decide +kernel
theorem dX10_init_223 : decode cX10_init 223 = .ok (.putfield 92, 3) := by decide +kernel
theorem dX10_init_226 : decode cX10_init 226 = .ok (.iconst 0, 1) := by decide +kernel
theorem dX10_init_227 : decode cX10_init 227 = .ok (.istore_n 1, 1) := by decide +kernel
theorem dX10_init_228 : decode cX10_init 228 = .ok (.iload_n 1, 1) := by decide +kernel
theorem dX10_init_229 : decode cX10_init 229 = .ok (.bipush 10, 2) := by decide +kernel
theorem dX10_init_231 : decode cX10_init 231 = .ok (.if_icmp .ge 16, 3) := by decide +kernel
theorem dX10_init_234 : decode cX10_init 234 = .ok (.aload_n 0, 1) := by decide +kernel
theorem dX10_init_235 : decode cX10_init 235 = .ok (.getfield 34, 3) := by decide +kernel
theorem dX10_init_238 : decode cX10_init 238 = .ok (.iload_n 1, 1) := by decide +kernel
theorem dX10_init_239 : decode cX10_init 239 = .ok (.iconst (-1), 1) := by decide +kernel
theorem dX10_init_240 : decode cX10_init 240 = .ok (.iastore, 1) := by decide +kernel
theorem dX10_init_241 : decode cX10_init 241 = .ok (.iinc 1 1, 3) := by decide +kernel
theorem dX10_init_244 : decode cX10_init 244 = .ok (.goto (-16), 3) := by decide +kernel
theorem dX10_init_247 : decode cX10_init 247 = .ok (.iconst 0, 1) := by decide +kernel
theorem dX10_init_248 : decode cX10_init 248 = .ok (.istore_n 1, 1) := by decide +kernel
theorem dX10_init_249 : decode cX10_init 249 = .ok (.iload_n 1, 1) := by decide +kernel
theorem dX10_init_250 : decode cX10_init 250 = .ok (.bipush 6, 2) := by decide +kernel
theorem dX10_init_252 : decode cX10_init 252 = .ok (.if_icmp .ge 23, 3) := by decide +kernel
theorem dX10_init_255 : decode cX10_init 255 = .ok (.aload_n 0, 1) := by decide +kernel
theorem dX10_init_256 : decode cX10_init 256 = .ok (.getfield 37, 3) := by decide +kernel
theorem dX10_init_259 : decode cX10_init 259 = .ok (.iload_n 1, 1) := by decide +kernel
theorem dX10_init_260 : decode cX10_init 260 = .ok (.iconst (-1), 1) := by decide +kernel
theorem dX10_init_261 : decode cX10_init 261 = .ok (.iastore, 1) := by decide +kernel
theorem dX10_init_262 : decode cX10_init 262 = .ok (.aload_n 0, 1) := by decide +kernel
theorem dX10_init_263 : decode cX10_init 263 = .ok (.getfield 40, 3) := by decide +kernel
theorem dX10_init_266 : decode cX10_init 266 = .ok (.iload_n 1, 1) := by decide +kernel
theorem dX10_init_267 : decode cX10_init 267 = .ok (.iconst (-1), 1) := by decide +kernel
theorem dX10_init_268 : decode cX10_init 268 = .ok (.iastore, 1) := by decide +kernel
theorem dX10_init_269 : decode cX10_init 269 = .ok (.iinc 1 1, 3) := by decide +kernel
theorem dX10_init_272 : decode cX10_init 272 = .ok (.goto (-23), 3) := by decide +kernel
theorem dX10_init_275 : decode cX10_init 275 = .ok (.iconst 0, 1) := by decide +kernel
theorem dX10_init_276 : decode cX10_init 276 = .ok (.istore_n 1, 1) := by decide +kernel
theorem dX10_init_277 : decode cX10_init 277 = .ok (.iload_n 1, 1) := by decide +kernel
theorem dX10_init_278 : decode cX10_init 278 = .ok (.iconst 4, 1) := by decide +kernel
theorem dX10_init_279 : decode cX10_init 279 = .ok (.if_icmp .ge 23, 3) := by decide +kernel
theorem dX10_init_282 : decode cX10_init 282 = .ok (.aload_n 0, 1) := by decide +kernel
theorem dX10_init_283 : decode cX10_init 283 = .ok (.getfield 49, 3) := by decide +kernel
theorem dX10_init_286 : decode cX10_init 286 = .ok (.iload_n 1, 1) := by decide +kernel
theorem dX10_init_287 : decode cX10_init 287 = .ok (.iconst (-1), 1) := by decide +kernel
theorem dX10_init_288 : decode cX10_init 288 = .ok (.iastore, 1) := by decide +kernel
theorem dX10_init_289 : decode cX10_init 289 = .ok (.aload_n 0, 1) := by decide +kernel
theorem dX10_init_290 : decode cX10_init 290 = .ok (.getfield 55, 3) := by decide +kernel
theorem dX10_init_293 : decode cX10_init 293 = .ok (.iload_n 1, 1) := by decide +kernel
theorem dX10_init_294 : decode cX10_init 294 = .ok (.iconst (-1), 1) := by decide +kernel
theorem dX10_init_295 : decode cX10_init 295 = .ok (.iastore, 1) := by decide +kernel
theorem dX10_init_296 : decode cX10_init 296 = .ok (.iinc 1 1, 3) := by decide +kernel
theorem dX10_init_299 : decode cX10_init 299 = .ok (.goto (-22), 3) := by decide +kernel
theorem dX10_init_302 : decode cX10_init 302 = .ok (.return_, 1) := by decide +kernel
theorem dX10_in_0 : decode cX10_in 0 = .ok (.iload_n 0, 1) := by decide +kernel
theorem dX10_in_1 : decode cX10_in 1 = .ok (.iload_n 1, 1) := by decide +kernel
theorem dX10_in_2 : decode cX10_in 2 = .ok (.if_icmp .lt 12, 3) := by decide +kernel
theorem dX10_in_5 : decode cX10_in 5 = .ok (.iload_n 0, 1) := by decide +kernel
theorem dX10_in_6 : decode cX10_in 6 = .ok (.iload_n 2, 1) := by decide +kernel
theorem dX10_in_7 : decode cX10_in 7 = .ok (.if_icmp .gt 7, 3) := by decide +kernel
theorem dX10_in_10 : decode cX10_in 10 = .ok (.iconst 1, 1) := by decide +kernel
theorem dX10_in_11 : decode cX10_in 11 = .ok (.goto 4, 3) := by decide +kernel
theorem dX10_in_14 : decode cX10_in 14 = .ok (.iconst 0, 1) := by decide +kernel
theorem dX10_in_15 : decode cX10_in 15 = .ok (.ireturn, 1) := by decide +kernel
theorem dX10_modulo_0 : decode cX10_modulo 0 = .ok (.iload_n 0, 1) := by decide +kernel
theorem dX10_modulo_1 : decode cX10_modulo 1 = .ok (.iload_n 1, 1) := by decide +kernel
theorem dX10_modulo_2 : decode cX10_modulo 2 = .ok (.irem, 1) := by decide +kernel
theorem dX10_modulo_3 : decode cX10_modulo 3 = .ok (.iload_n 1, 1) := by decide +kernel
theorem dX10_modulo_4 : decode cX10_modulo 4 = .ok (.iadd, 1) := by decide +kernel
theorem dX10_modulo_5 : decode cX10_modulo 5 = .ok (.iload_n 1, 1) := by decide +kernel
theorem dX10_modulo_6 : decode cX10_modulo 6 = .ok (.irem, 1) := by decide +kernel
theorem dX10_modulo_7 : decode cX10_modulo 7 = .ok (.ireturn, 1) := by decide +kernel
theorem dX10_least_0 : decode cX10_least 0 = .ok (.iload_n 0, 1) := by decide +kernel
theorem dX10_least_1 : decode cX10_least 1 = .ok (.iload_n 1, 1) := by decide +kernel
theorem dX10_least_2 : decode cX10_least 2 = .ok (.if_icmp .ge 7, 3) := by decide +kernel
theorem dX10_least_5 : decode cX10_least 5 = .ok (.iload_n 0, 1) := by decide +kernel
theorem dX10_least_6 : decode cX10_least 6 = .ok (.goto 4, 3) := by decide +kernel
theorem dX10_least_9 : decode cX10_least 9 = .ok (.iload_n 1, 1) := by decide +kernel
theorem dX10_least_10 : decode cX10_least 10 = .ok (.ireturn, 1) := by decide +kernel
set_option maxRecDepth 20000 in
theorem ggX10_horse_X10_in : GoodIn wsX10_horse wsX10_in := goodIn_r _ [10] (by decide +kernel) (by decide +kernel)
set_option maxRecDepth 20000 in
theorem gX10_horse_X10_in : GoodIn wsX10_horse (va_wsS RX10 95 yX10_in wsX10_in) := goodIn_app (goodIn_of _ (by decide +kernel)) ggX10_horse_X10_in
theorem dX10_horse_0 : decode cX10_horse 0 = .ok (.iload_n 1, 1) := by decide +kernel
theorem dX10_horse_1 : decode cX10_horse 1 = .ok (.iconst 0, 1) := by decide +kernel
theorem dX10_horse_2 : decode cX10_horse 2 = .ok (.bipush 9, 2) := by decide +kernel
theorem dX10_horse_4 : decode cX10_horse 4 = .ok (.invokestatic 95, 3) := by decide +kernel
theorem dX10_horse_7 : decode cX10_horse 7 = .ok (.ifCond .eq 12, 3) := by decide +kernel
theorem dX10_horse_10 : decode cX10_horse 10 = .ok (.iload_n 2, 1) := by decide +kernel
theorem dX10_horse_11 : decode cX10_horse 11 = .ok (.iconst 0, 1) := by decide +kernel
theorem dX10_horse_12 : decode cX10_horse 12 = .ok (.iconst 2, 1) := by decide +kernel
theorem dX10_horse_13 : decode cX10_horse 13 = .ok (.invokestatic 95, 3) := by decide +kernel
theorem dX10_horse_16 : decode cX10_horse 16 = .ok (.ifCond .ne 6, 3) := by decide +kernel
theorem dX10_horse_19 : decode cX10_horse 19 = .ok (.ldc 99, 2) := by decide +kernel
theorem dX10_horse_21 : decode cX10_horse 21 = .ok (.ireturn, 1) := by decide +kernel
theorem dX10_horse_22 : decode cX10_horse 22 = .ok (.aload_n 0, 1) := by decide +kernel
theorem dX10_horse_23 : decode cX10_horse 23 = .ok (.getfield 100, 3) := by decide +kernel
theorem dX10_horse_26 : decode cX10_horse 26 = .ok (.bipush 60, 2) := by decide +kernel
theorem dX10_horse_28 : decode cX10_horse 28 = .ok (.if_icmp .ne 6, 3) := by decide +kernel
theorem dX10_horse_31 : decode cX10_horse 31 = .ok (.ldc 104, 2) := by decide +kernel
theorem dX10_horse_33 : decode cX10_horse 33 = .ok (.ireturn, 1) := by decide +kernel
theorem dX10_horse_34 : decode cX10_horse 34 = .ok (.aload_n 0, 1) := by decide +kernel
theorem dX10_horse_35 : decode cX10_horse 35 = .ok (.getfield 7, 3) := by decide +kernel
theorem dX10_horse_38 : decode cX10_horse 38 = .ok (.aload_n 0, 1) := by decide +kernel
theorem dX10_horse_39 : decode cX10_horse 39 = .ok (.getfield 100, 3) := by decide +kernel
theorem dX10_horse_42 : decode cX10_horse 42 = .ok (.iload_n 2, 1) := by decide +kernel
theorem dX10_horse_43 : decode cX10_horse 43 = .ok (.iastore, 1) := by decide +kernel
theorem dX10_horse_44 : decode cX10_horse 44 = .ok (.aload_n 0, 1) := by decide +kernel
theorem dX10_horse_45 : decode cX10_horse 45 = .ok (.getfield 13, 3) := by decide +kernel
theorem dX10_horse_48 : decode cX10_horse 48 = .ok (.aload_n 0, 1) := by decide +kernel
theorem dX10_horse_49 : decode cX10_horse 49 = .ok (.getfield 100, 3) := by decide +kernel
theorem dX10_horse_52 : decode cX10_horse 52 = .ok (.iload_n 3, 1) := by decide +kernel
theorem dX10_horse_53 : decode cX10_horse 53 = .ok (.iastore, 1) := by decide +kernel
theorem dX10_horse_54 : decode cX10_horse 54 = .ok (.aload_n 0, 1) := by decide +kernel
theorem dX10_horse_55 : decode cX10_horse 55 = .ok (.getfield 34, 3) := by decide +kernel
theorem dX10_horse_58 : decode cX10_horse 58 = .ok (.iload_n 1, 1) := by decide +kernel
theorem dX10_horse_59 : decode cX10_horse 59 = .ok (.aload_n 0, 1) := by decide +kernel
theorem dX10_horse_60 : decode cX10_horse 60 = .ok (.getfield 100, 3) := by decide +kernel
theorem dX10_horse_63 : decode cX10_horse 63 = .ok (.iastore, 1) := by decide +kernel
theorem dX10_horse_64 : decode cX10_horse 64 = .ok (.aload_n 0, 1) := by decide +kernel
theorem dX10_horse_65 : decode cX10_horse 65 = .ok (.dup, 1) := by decide +kernel
theorem dX10_horse_66 : decode cX10_horse 66 = .ok (.getfield 100, 3) := by decide +kernel
theorem dX10_horse_69 : decode cX10_horse 69 = .ok (.iconst 1, 1) := by decide +kernel
theorem dX10_horse_70 : decode cX10_horse 70 = .ok (.iadd, 1) := by decide +kernel
theorem dX10_horse_71 : decode cX10_horse 71 = .ok (.putfield 100, 3) := by decide +kernel
theorem dX10_horse_74 : decode cX10_horse 74 = .ok (.aload_n 0, 1) := by decide +kernel
theorem dX10_horse_75 : decode cX10_horse 75 = .ok (.getfield 100, 3) := by decide +kernel
theorem dX10_horse_78 : decode cX10_horse 78 = .ok (.iconst 1, 1) := by decide +kernel
theorem dX10_horse_79 : decode cX10_horse 79 = .ok (.isub, 1) := by decide +kernel
theorem dX10_horse_80 : decode cX10_horse 80 = .ok (.ireturn, 1) := by decide +kernel
set_option maxRecDepth 20000 in
theorem ggX10_wagon_X10_in : GoodIn wsX10_wagon wsX10_in := goodIn_r _ [9] (by decide +kernel) (by decide +kernel)
set_option maxRecDepth 20000 in
theorem gX10_wagon_X10_in : GoodIn wsX10_wagon (va_wsS RX10 95 yX10_in wsX10_in) := goodIn_app (goodIn_of _ (by decide +kernel)) ggX10_wagon_X10_in
theorem dX10_wagon_0 : decode cX10_wagon 0 = .ok (.iload_n 1, 1) := by decide +kernel
theorem dX10_wagon_1 : decode cX10_wagon 1 = .ok (.iconst 0, 1) := by decide +kernel
theorem dX10_wagon_2 : decode cX10_wagon 2 = .ok (.iconst 5, 1) := by decide +kernel
theorem dX10_wagon_3 : decode cX10_wagon 3 = .ok (.invokestatic 95, 3) := by decide +kernel
theorem dX10_wagon_6 : decode cX10_wagon 6 = .ok (.ifCond .ne 6, 3) := by decide +kernel
theorem dX10_wagon_9 : decode cX10_wagon 9 = .ok (.ldc 99, 2) := by decide +kernel
theorem dX10_wagon_11 : decode cX10_wagon 11 = .ok (.ireturn, 1) := by decide +kernel
theorem dX10_wagon_12 : decode cX10_wagon 12 = .ok (.aload_n 0, 1) := by decide +kernel
theorem dX10_wagon_13 : decode cX10_wagon 13 = .ok (.getfield 105, 3) := by decide +kernel
theorem dX10_wagon_16 : decode cX10_wagon 16 = .ok (.bipush 60, 2) := by decide +kernel
theorem dX10_wagon_18 : decode cX10_wagon 18 = .ok (.if_icmp .ne 6, 3) := by decide +kernel
theorem dX10_wagon_21 : decode cX10_wagon 21 = .ok (.ldc 104, 2) := by decide +kernel
theorem dX10_wagon_23 : decode cX10_wagon 23 = .ok (.ireturn, 1) := by decide +kernel
theorem dX10_wagon_24 : decode cX10_wagon 24 = .ok (.aload_n 0, 1) := by decide +kernel
theorem dX10_wagon_25 : decode cX10_wagon 25 = .ok (.getfield 28, 3) := by decide +kernel
theorem dX10_wagon_28 : decode cX10_wagon 28 = .ok (.aload_n 0, 1) := by decide +kernel
theorem dX10_wagon_29 : decode cX10_wagon 29 = .ok (.getfield 105, 3) := by decide +kernel
theorem dX10_wagon_32 : decode cX10_wagon 32 = .ok (.iload_n 2, 1) := by decide +kernel
theorem dX10_wagon_33 : decode cX10_wagon 33 = .ok (.iastore, 1) := by decide +kernel
theorem dX10_wagon_34 : decode cX10_wagon 34 = .ok (.aload_n 0, 1) := by decide +kernel
theorem dX10_wagon_35 : decode cX10_wagon 35 = .ok (.getfield 37, 3) := by decide +kernel
theorem dX10_wagon_38 : decode cX10_wagon 38 = .ok (.iload_n 1, 1) := by decide +kernel
theorem dX10_wagon_39 : decode cX10_wagon 39 = .ok (.bipush 100, 2) := by decide +kernel
theorem dX10_wagon_41 : decode cX10_wagon 41 = .ok (.aload_n 0, 1) := by decide +kernel
theorem dX10_wagon_42 : decode cX10_wagon 42 = .ok (.getfield 105, 3) := by decide +kernel
theorem dX10_wagon_45 : decode cX10_wagon 45 = .ok (.iadd, 1) := by decide +kernel
theorem dX10_wagon_46 : decode cX10_wagon 46 = .ok (.iastore, 1) := by decide +kernel
theorem dX10_wagon_47 : decode cX10_wagon 47 = .ok (.aload_n 0, 1) := by decide +kernel
theorem dX10_wagon_48 : decode cX10_wagon 48 = .ok (.dup, 1) := by decide +kernel
theorem dX10_wagon_49 : decode cX10_wagon 49 = .ok (.getfield 105, 3) := by decide +kernel
theorem dX10_wagon_52 : decode cX10_wagon 52 = .ok (.iconst 1, 1) := by decide +kernel
theorem dX10_wagon_53 : decode cX10_wagon 53 = .ok (.iadd, 1) := by decide +kernel
theorem dX10_wagon_54 : decode cX10_wagon 54 = .ok (.putfield 105, 3) := by decide +kernel
theorem dX10_wagon_57 : decode cX10_wagon 57 = .ok (.aload_n 0, 1) := by decide +kernel
theorem dX10_wagon_58 : decode cX10_wagon 58 = .ok (.getfield 105, 3) := by decide +kernel
theorem dX10_wagon_61 : decode cX10_wagon 61 = .ok (.iconst 1, 1) := by decide +kernel
theorem dX10_wagon_62 : decode cX10_wagon 62 = .ok (.isub, 1) := by decide +kernel
theorem dX10_wagon_63 : decode cX10_wagon 63 = .ok (.ireturn, 1) := by decide +kernel
set_option maxRecDepth 20000 in
theorem ggX10_lead_X10_in : GoodIn wsX10_lead wsX10_in := goodIn_r _ [7] (by decide +kernel) (by decide +kernel)
set_option maxRecDepth 20000 in
theorem gX10_lead_X10_in : GoodIn wsX10_lead (va_wsS RX10 95 yX10_in wsX10_in) := goodIn_app (goodIn_of _ (by decide +kernel)) ggX10_lead_X10_in
theorem dX10_lead_0 : decode cX10_lead 0 = .ok (.iload_n 1, 1) := by decide +kernel
theorem dX10_lead_1 : decode cX10_lead 1 = .ok (.iconst 0, 1) := by decide +kernel
theorem dX10_lead_2 : decode cX10_lead 2 = .ok (.bipush 9, 2) := by decide +kernel
theorem dX10_lead_4 : decode cX10_lead 4 = .ok (.invokestatic 95, 3) := by decide +kernel
theorem dX10_lead_7 : decode cX10_lead 7 = .ok (.ifCond .eq 12, 3) := by decide +kernel
theorem dX10_lead_10 : decode cX10_lead 10 = .ok (.iload_n 2, 1) := by decide +kernel
theorem dX10_lead_11 : decode cX10_lead 11 = .ok (.iconst 0, 1) := by decide +kernel
theorem dX10_lead_12 : decode cX10_lead 12 = .ok (.iconst 5, 1) := by decide +kernel
theorem dX10_lead_13 : decode cX10_lead 13 = .ok (.invokestatic 95, 3) := by decide +kernel
theorem dX10_lead_16 : decode cX10_lead 16 = .ok (.ifCond .ne 6, 3) := by decide +kernel
theorem dX10_lead_19 : decode cX10_lead 19 = .ok (.ldc 99, 2) := by decide +kernel
theorem dX10_lead_21 : decode cX10_lead 21 = .ok (.ireturn, 1) := by decide +kernel
theorem dX10_lead_22 : decode cX10_lead 22 = .ok (.aload_n 0, 1) := by decide +kernel
theorem dX10_lead_23 : decode cX10_lead 23 = .ok (.getfield 37, 3) := by decide +kernel
theorem dX10_lead_26 : decode cX10_lead 26 = .ok (.iload_n 2, 1) := by decide +kernel
theorem dX10_lead_27 : decode cX10_lead 27 = .ok (.aload_n 0, 1) := by decide +kernel
theorem dX10_lead_28 : decode cX10_lead 28 = .ok (.getfield 34, 3) := by decide +kernel
theorem dX10_lead_31 : decode cX10_lead 31 = .ok (.iload_n 1, 1) := by decide +kernel
theorem dX10_lead_32 : decode cX10_lead 32 = .ok (.iaload, 1) := by decide +kernel
theorem dX10_lead_33 : decode cX10_lead 33 = .ok (.iastore, 1) := by decide +kernel
theorem dX10_lead_34 : decode cX10_lead 34 = .ok (.aload_n 0, 1) := by decide +kernel
theorem dX10_lead_35 : decode cX10_lead 35 = .ok (.getfield 37, 3) := by decide +kernel
theorem dX10_lead_38 : decode cX10_lead 38 = .ok (.iload_n 2, 1) := by decide +kernel
theorem dX10_lead_39 : decode cX10_lead 39 = .ok (.iaload, 1) := by decide +kernel
theorem dX10_lead_40 : decode cX10_lead 40 = .ok (.ifCond .lt 7, 3) := by decide +kernel
theorem dX10_lead_43 : decode cX10_lead 43 = .ok (.iconst 1, 1) := by decide +kernel
theorem dX10_lead_44 : decode cX10_lead 44 = .ok (.goto 4, 3) := by decide +kernel
theorem dX10_lead_47 : decode cX10_lead 47 = .ok (.iconst 0, 1) := by decide +kernel
theorem dX10_lead_48 : decode cX10_lead 48 = .ok (.ireturn, 1) := by decide +kernel
theorem dX10_holds_0 : decode cX10_holds 0 = .ok (.iload_n 1, 1) := by decide +kernel
theorem dX10_holds_1 : decode cX10_holds 1 = .ok (.tableswitch 110 0 4 #[35, 50, 65, 80, 95], 35) := by decide +kernel
theorem dX10_holds_36 : decode cX10_holds 36 = .ok (.aload_n 0, 1) := by decide +kernel
theorem dX10_holds_37 : decode cX10_holds 37 = .ok (.getfield 34, 3) := by decide +kernel
theorem dX10_holds_40 : decode cX10_holds 40 = .ok (.iload_n 2, 1) := by decide +kernel
theorem dX10_holds_41 : decode cX10_holds 41 = .ok (.iaload, 1) := by decide +kernel
theorem dX10_holds_42 : decode cX10_holds 42 = .ok (.ifCond .lt 7, 3) := by decide +kernel
theorem dX10_holds_45 : decode cX10_holds 45 = .ok (.iconst 1, 1) := by decide +kernel
theorem dX10_holds_46 : decode cX10_holds 46 = .ok (.goto 4, 3) := by decide +kernel
theorem dX10_holds_49 : decode cX10_holds 49 = .ok (.iconst 0, 1) := by decide +kernel
theorem dX10_holds_50 : decode cX10_holds 50 = .ok (.ireturn, 1) := by decide +kernel
theorem dX10_holds_51 : decode cX10_holds 51 = .ok (.aload_n 0, 1) := by decide +kernel
theorem dX10_holds_52 : decode cX10_holds 52 = .ok (.getfield 37, 3) := by decide +kernel
theorem dX10_holds_55 : decode cX10_holds 55 = .ok (.iload_n 2, 1) := by decide +kernel
theorem dX10_holds_56 : decode cX10_holds 56 = .ok (.iaload, 1) := by decide +kernel
theorem dX10_holds_57 : decode cX10_holds 57 = .ok (.ifCond .lt 7, 3) := by decide +kernel
theorem dX10_holds_60 : decode cX10_holds 60 = .ok (.iconst 1, 1) := by decide +kernel
theorem dX10_holds_61 : decode cX10_holds 61 = .ok (.goto 4, 3) := by decide +kernel
theorem dX10_holds_64 : decode cX10_holds 64 = .ok (.iconst 0, 1) := by decide +kernel
theorem dX10_holds_65 : decode cX10_holds 65 = .ok (.ireturn, 1) := by decide +kernel
theorem dX10_holds_66 : decode cX10_holds 66 = .ok (.aload_n 0, 1) := by decide +kernel
theorem dX10_holds_67 : decode cX10_holds 67 = .ok (.getfield 40, 3) := by decide +kernel
theorem dX10_holds_70 : decode cX10_holds 70 = .ok (.iload_n 2, 1) := by decide +kernel
theorem dX10_holds_71 : decode cX10_holds 71 = .ok (.iaload, 1) := by decide +kernel
theorem dX10_holds_72 : decode cX10_holds 72 = .ok (.ifCond .lt 7, 3) := by decide +kernel
theorem dX10_holds_75 : decode cX10_holds 75 = .ok (.iconst 1, 1) := by decide +kernel
theorem dX10_holds_76 : decode cX10_holds 76 = .ok (.goto 4, 3) := by decide +kernel
theorem dX10_holds_79 : decode cX10_holds 79 = .ok (.iconst 0, 1) := by decide +kernel
theorem dX10_holds_80 : decode cX10_holds 80 = .ok (.ireturn, 1) := by decide +kernel
theorem dX10_holds_81 : decode cX10_holds 81 = .ok (.aload_n 0, 1) := by decide +kernel
theorem dX10_holds_82 : decode cX10_holds 82 = .ok (.getfield 49, 3) := by decide +kernel
theorem dX10_holds_85 : decode cX10_holds 85 = .ok (.iload_n 2, 1) := by decide +kernel
theorem dX10_holds_86 : decode cX10_holds 86 = .ok (.iaload, 1) := by decide +kernel
theorem dX10_holds_87 : decode cX10_holds 87 = .ok (.ifCond .lt 7, 3) := by decide +kernel
theorem dX10_holds_90 : decode cX10_holds 90 = .ok (.iconst 1, 1) := by decide +kernel
theorem dX10_holds_91 : decode cX10_holds 91 = .ok (.goto 4, 3) := by decide +kernel
theorem dX10_holds_94 : decode cX10_holds 94 = .ok (.iconst 0, 1) := by decide +kernel
theorem dX10_holds_95 : decode cX10_holds 95 = .ok (.ireturn, 1) := by decide +kernel
theorem dX10_holds_96 : decode cX10_holds 96 = .ok (.aload_n 0, 1) := by decide +kernel
theorem dX10_holds_97 : decode cX10_holds 97 = .ok (.getfield 55, 3) := by decide +kernel
theorem dX10_holds_100 : decode cX10_holds 100 = .ok (.iload_n 2, 1) := by decide +kernel
theorem dX10_holds_101 : decode cX10_holds 101 = .ok (.iaload, 1) := by decide +kernel
theorem dX10_holds_102 : decode cX10_holds 102 = .ok (.ifCond .lt 7, 3) := by decide +kernel
theorem dX10_holds_105 : decode cX10_holds 105 = .ok (.iconst 1, 1) := by decide +kernel
theorem dX10_holds_106 : decode cX10_holds 106 = .ok (.goto 4, 3) := by decide +kernel
theorem dX10_holds_109 : decode cX10_holds 109 = .ok (.iconst 0, 1) := by decide +kernel
theorem dX10_holds_110 : decode cX10_holds 110 = .ok (.ireturn, 1) := by decide +kernel
theorem dX10_holds_111 : decode cX10_holds 111 = .ok (.aload_n 0, 1) := by decide +kernel
theorem dX10_holds_112 : decode cX10_holds 112 = .ok (.getfield 68, 3) := by decide +kernel
theorem dX10_holds_115 : decode cX10_holds 115 = .ok (.iload_n 2, 1) := by decide +kernel
theorem dX10_holds_116 : decode cX10_holds 116 = .ok (.baload, 1) := by decide +kernel
theorem dX10_holds_117 : decode cX10_holds 117 = .ok (.ireturn, 1) := by decide +kernel
set_option maxRecDepth 20000 in
theorem ggX10_empty_X10_in : GoodIn wsX10_empty wsX10_in := goodIn_r _ [11] (by decide +kernel) (by decide +kernel)
set_option maxRecDepth 20000 in
theorem gX10_empty_X10_in : GoodIn wsX10_empty (va_wsS RX10 95 yX10_in wsX10_in) := goodIn_app (goodIn_of _ (by decide +kernel)) ggX10_empty_X10_in
set_option maxRecDepth 20000 in
theorem ggX10_empty_X10_holds : GoodIn wsX10_empty wsX10_holds := goodIn_r _ [15, 2, 3, 4, 5, 6, 7, 16, 17, 18, 19, 20, 21, 22, 23, 24, 25, 26, 27, 28, 29, 30, 31, 32, 33, 34, 35, 36, 37, 38, 39, 40, 41, 42, 43, 44, 45, 46, 47, 48, 49, 50] (by decide +kernel) (by decide +kernel)
set_option maxRecDepth 20000 in
theorem gX10_empty_X10_holds : GoodIn wsX10_empty (wsV RX10 108 RX10 yX10_holds wsX10_holds) := goodIn_app (goodIn_of _ (by decide +kernel)) ggX10_empty_X10_holds
theorem dX10_empty_0 : decode cX10_empty 0 = .ok (.iload_n 1, 1) := by decide +kernel
theorem dX10_empty_1 : decode cX10_empty 1 = .ok (.iconst 0, 1) := by decide +kernel
theorem dX10_empty_2 : decode cX10_empty 2 = .ok (.iconst 5, 1) := by decide +kernel
theorem dX10_empty_3 : decode cX10_empty 3 = .ok (.invokestatic 95, 3) := by decide +kernel
theorem dX10_empty_6 : decode cX10_empty 6 = .ok (.ifCond .eq 35, 3) := by decide +kernel
theorem dX10_empty_9 : decode cX10_empty 9 = .ok (.iload_n 2, 1) := by decide +kernel
theorem dX10_empty_10 : decode cX10_empty 10 = .ok (.iconst 0, 1) := by decide +kernel
theorem dX10_empty_11 : decode cX10_empty 11 = .ok (.iload_n 1, 1) := by decide +kernel
theorem dX10_empty_12 : decode cX10_empty 12 = .ok (.ifCond .ne 8, 3) := by decide +kernel
theorem dX10_empty_15 : decode cX10_empty 15 = .ok (.bipush 9, 2) := by decide +kernel
theorem dX10_empty_17 : decode cX10_empty 17 = .ok (.goto 18, 3) := by decide +kernel
theorem dX10_empty_20 : decode cX10_empty 20 = .ok (.iload_n 1, 1) := by decide +kernel
theorem dX10_empty_21 : decode cX10_empty 21 = .ok (.iconst 3, 1) := by decide +kernel
theorem dX10_empty_22 : decode cX10_empty 22 = .ok (.if_icmp .eq 8, 3) := by decide +kernel
theorem dX10_empty_25 : decode cX10_empty 25 = .ok (.iload_n 1, 1) := by decide +kernel
theorem dX10_empty_26 : decode cX10_empty 26 = .ok (.iconst 4, 1) := by decide +kernel
theorem dX10_empty_27 : decode cX10_empty 27 = .ok (.if_icmp .ne 7, 3) := by decide +kernel
theorem dX10_empty_30 : decode cX10_empty 30 = .ok (.iconst 3, 1) := by decide +kernel
theorem dX10_empty_31 : decode cX10_empty 31 = .ok (.goto 4, 3) := by decide +kernel
theorem dX10_empty_34 : decode cX10_empty 34 = .ok (.iconst 5, 1) := by decide +kernel
theorem dX10_empty_35 : decode cX10_empty 35 = .ok (.invokestatic 95, 3) := by decide +kernel
theorem dX10_empty_38 : decode cX10_empty 38 = .ok (.ifCond .ne 6, 3) := by decide +kernel
theorem dX10_empty_41 : decode cX10_empty 41 = .ok (.ldc 99, 2) := by decide +kernel
theorem dX10_empty_43 : decode cX10_empty 43 = .ok (.ireturn, 1) := by decide +kernel
theorem dX10_empty_44 : decode cX10_empty 44 = .ok (.aload_n 0, 1) := by decide +kernel
theorem dX10_empty_45 : decode cX10_empty 45 = .ok (.iload_n 1, 1) := by decide +kernel
theorem dX10_empty_46 : decode cX10_empty 46 = .ok (.iload_n 2, 1) := by decide +kernel
theorem dX10_empty_47 : decode cX10_empty 47 = .ok (.invokevirtual 108, 3) := by decide +kernel
theorem dX10_empty_50 : decode cX10_empty 50 = .ok (.ifCond .eq 7, 3) := by decide +kernel
theorem dX10_empty_53 : decode cX10_empty 53 = .ok (.iconst 1, 1) := by decide +kernel
theorem dX10_empty_54 : decode cX10_empty 54 = .ok (.goto 4, 3) := by decide +kernel
theorem dX10_empty_57 : decode cX10_empty 57 = .ok (.iconst 0, 1) := by decide +kernel
theorem dX10_empty_58 : decode cX10_empty 58 = .ok (.istore_n 3, 1) := by decide +kernel
theorem dX10_empty_59 : decode cX10_empty 59 = .ok (.iload_n 1, 1) := by decide +kernel
theorem dX10_empty_60 : decode cX10_empty 60 = .ok (.tableswitch 86 0 4 #[36, 46, 56, 66, 76], 36) := by decide +kernel
theorem dX10_empty_96 : decode cX10_empty 96 = .ok (.aload_n 0, 1) := by decide +kernel
theorem dX10_empty_97 : decode cX10_empty 97 = .ok (.getfield 34, 3) := by decide +kernel
theorem dX10_empty_100 : decode cX10_empty 100 = .ok (.iload_n 2, 1) := by decide +kernel
theorem dX10_empty_101 : decode cX10_empty 101 = .ok (.iconst (-1), 1) := by decide +kernel
theorem dX10_empty_102 : decode cX10_empty 102 = .ok (.iastore, 1) := by decide +kernel
theorem dX10_empty_103 : decode cX10_empty 103 = .ok (.goto 50, 3) := by decide +kernel
theorem dX10_empty_106 : decode cX10_empty 106 = .ok (.aload_n 0, 1) := by decide +kernel
theorem dX10_empty_107 : decode cX10_empty 107 = .ok (.getfield 37, 3) := by decide +kernel
theorem dX10_empty_110 : decode cX10_empty 110 = .ok (.iload_n 2, 1) := by decide +kernel
theorem dX10_empty_111 : decode cX10_empty 111 = .ok (.iconst (-1), 1) := by decide +kernel
theorem dX10_empty_112 : decode cX10_empty 112 = .ok (.iastore, 1) := by decide +kernel
theorem dX10_empty_113 : decode cX10_empty 113 = .ok (.goto 40, 3) := by decide +kernel
theorem dX10_empty_116 : decode cX10_empty 116 = .ok (.aload_n 0, 1) := by decide +kernel
theorem dX10_empty_117 : decode cX10_empty 117 = .ok (.getfield 40, 3) := by decide +kernel
theorem dX10_empty_120 : decode cX10_empty 120 = .ok (.iload_n 2, 1) := by decide +kernel
theorem dX10_empty_121 : decode cX10_empty 121 = .ok (.iconst (-1), 1) := by decide +kernel
theorem dX10_empty_122 : decode cX10_empty 122 = .ok (.iastore, 1) := by decide +kernel
theorem dX10_empty_123 : decode cX10_empty 123 = .ok (.goto 30, 3) := by decide +kernel
theorem dX10_empty_126 : decode cX10_empty 126 = .ok (.aload_n 0, 1) := by decide +kernel
theorem dX10_empty_127 : decode cX10_empty 127 = .ok (.getfield 49, 3) := by decide +kernel
theorem dX10_empty_130 : decode cX10_empty 130 = .ok (.iload_n 2, 1) := by decide +kernel
theorem dX10_empty_131 : decode cX10_empty 131 = .ok (.iconst (-1), 1) := by decide +kernel
theorem dX10_empty_132 : decode cX10_empty 132 = .ok (.iastore, 1) := by decide +kernel
theorem dX10_empty_133 : decode cX10_empty 133 = .ok (.goto 20, 3) := by decide +kernel
theorem dX10_empty_136 : decode cX10_empty 136 = .ok (.aload_n 0, 1) := by decide +kernel
theorem dX10_empty_137 : decode cX10_empty 137 = .ok (.getfield 55, 3) := by decide +kernel
theorem dX10_empty_140 : decode cX10_empty 140 = .ok (.iload_n 2, 1) := by decide +kernel
theorem dX10_empty_141 : decode cX10_empty 141 = .ok (.iconst (-1), 1) := by decide +kernel
theorem dX10_empty_142 : decode cX10_empty 142 = .ok (.iastore, 1) := by decide +kernel
theorem dX10_empty_143 : decode cX10_empty 143 = .ok (.goto 10, 3) := by decide +kernel
theorem dX10_empty_146 : decode cX10_empty 146 = .ok (.aload_n 0, 1) := by decide +kernel
theorem dX10_empty_147 : decode cX10_empty 147 = .ok (.getfield 68, 3) := by decide +kernel
theorem dX10_empty_150 : decode cX10_empty 150 = .ok (.iload_n 2, 1) := by decide +kernel
theorem dX10_empty_151 : decode cX10_empty 151 = .ok (.iconst 0, 1) := by decide +kernel
theorem dX10_empty_152 : decode cX10_empty 152 = .ok (.bastore, 1) := by decide +kernel
theorem dX10_empty_153 : decode cX10_empty 153 = .ok (.iload_n 3, 1) := by decide +kernel
theorem dX10_empty_154 : decode cX10_empty 154 = .ok (.ireturn, 1) := by decide +kernel
set_option maxRecDepth 20000 in
theorem ggX10_tear_X10_in : GoodIn wsX10_tear wsX10_in := goodIn_r _ [7] (by decide +kernel) (by decide +kernel)
set_option maxRecDepth 20000 in
theorem gX10_tear_X10_in : GoodIn wsX10_tear (va_wsS RX10 95 yX10_in wsX10_in) := goodIn_app (goodIn_of _ (by decide +kernel)) ggX10_tear_X10_in
theorem dX10_tear_0 : decode cX10_tear 0 = .ok (.iload_n 1, 1) := by decide +kernel
theorem dX10_tear_1 : decode cX10_tear 1 = .ok (.iconst 0, 1) := by decide +kernel
theorem dX10_tear_2 : decode cX10_tear 2 = .ok (.iconst 3, 1) := by decide +kernel
theorem dX10_tear_3 : decode cX10_tear 3 = .ok (.invokestatic 95, 3) := by decide +kernel
theorem dX10_tear_6 : decode cX10_tear 6 = .ok (.ifCond .eq 19, 3) := by decide +kernel
theorem dX10_tear_9 : decode cX10_tear 9 = .ok (.iload_n 2, 1) := by decide +kernel
theorem dX10_tear_10 : decode cX10_tear 10 = .ok (.iconst 0, 1) := by decide +kernel
theorem dX10_tear_11 : decode cX10_tear 11 = .ok (.aload_n 0, 1) := by decide +kernel
theorem dX10_tear_12 : decode cX10_tear 12 = .ok (.getfield 55, 3) := by decide +kernel
theorem dX10_tear_15 : decode cX10_tear 15 = .ok (.iload_n 1, 1) := by decide +kernel
theorem dX10_tear_16 : decode cX10_tear 16 = .ok (.iaload, 1) := by decide +kernel
theorem dX10_tear_17 : decode cX10_tear 17 = .ok (.iconst 1, 1) := by decide +kernel
theorem dX10_tear_18 : decode cX10_tear 18 = .ok (.isub, 1) := by decide +kernel
theorem dX10_tear_19 : decode cX10_tear 19 = .ok (.invokestatic 95, 3) := by decide +kernel
theorem dX10_tear_22 : decode cX10_tear 22 = .ok (.ifCond .ne 6, 3) := by decide +kernel
theorem dX10_tear_25 : decode cX10_tear 25 = .ok (.ldc 99, 2) := by decide +kernel
theorem dX10_tear_27 : decode cX10_tear 27 = .ok (.ireturn, 1) := by decide +kernel
theorem dX10_tear_28 : decode cX10_tear 28 = .ok (.aload_n 0, 1) := by decide +kernel
theorem dX10_tear_29 : decode cX10_tear 29 = .ok (.getfield 61, 3) := by decide +kernel
theorem dX10_tear_32 : decode cX10_tear 32 = .ok (.bipush 6, 2) := by decide +kernel
theorem dX10_tear_34 : decode cX10_tear 34 = .ok (.iload_n 1, 1) := by decide +kernel
theorem dX10_tear_35 : decode cX10_tear 35 = .ok (.imul, 1) := by decide +kernel
theorem dX10_tear_36 : decode cX10_tear 36 = .ok (.iload_n 2, 1) := by decide +kernel
theorem dX10_tear_37 : decode cX10_tear 37 = .ok (.iadd, 1) := by decide +kernel
theorem dX10_tear_38 : decode cX10_tear 38 = .ok (.baload, 1) := by decide +kernel
theorem dX10_tear_39 : decode cX10_tear 39 = .ok (.ifCond .eq 7, 3) := by decide +kernel
theorem dX10_tear_42 : decode cX10_tear 42 = .ok (.iconst 1, 1) := by decide +kernel
theorem dX10_tear_43 : decode cX10_tear 43 = .ok (.goto 4, 3) := by decide +kernel
theorem dX10_tear_46 : decode cX10_tear 46 = .ok (.iconst 0, 1) := by decide +kernel
theorem dX10_tear_47 : decode cX10_tear 47 = .ok (.istore_n 3, 1) := by decide +kernel
theorem dX10_tear_48 : decode cX10_tear 48 = .ok (.aload_n 0, 1) := by decide +kernel
theorem dX10_tear_49 : decode cX10_tear 49 = .ok (.getfield 61, 3) := by decide +kernel
theorem dX10_tear_52 : decode cX10_tear 52 = .ok (.bipush 6, 2) := by decide +kernel
theorem dX10_tear_54 : decode cX10_tear 54 = .ok (.iload_n 1, 1) := by decide +kernel
theorem dX10_tear_55 : decode cX10_tear 55 = .ok (.imul, 1) := by decide +kernel
theorem dX10_tear_56 : decode cX10_tear 56 = .ok (.iload_n 2, 1) := by decide +kernel
theorem dX10_tear_57 : decode cX10_tear 57 = .ok (.iadd, 1) := by decide +kernel
theorem dX10_tear_58 : decode cX10_tear 58 = .ok (.iconst 0, 1) := by decide +kernel
theorem dX10_tear_59 : decode cX10_tear 59 = .ok (.bastore, 1) := by decide +kernel
theorem dX10_tear_60 : decode cX10_tear 60 = .ok (.iload_n 3, 1) := by decide +kernel
theorem dX10_tear_61 : decode cX10_tear 61 = .ok (.ireturn, 1) := by decide +kernel
set_option maxRecDepth 20000 in
theorem ggX10_hang_X10_in : GoodIn wsX10_hang wsX10_in := goodIn_r _ [9] (by decide +kernel) (by decide +kernel)
set_option maxRecDepth 20000 in
theorem gX10_hang_X10_in : GoodIn wsX10_hang (va_wsS RX10 95 yX10_in wsX10_in) := goodIn_app (goodIn_of _ (by decide +kernel)) ggX10_hang_X10_in
theorem dX10_hang_0 : decode cX10_hang 0 = .ok (.iload_n 1, 1) := by decide +kernel
theorem dX10_hang_1 : decode cX10_hang 1 = .ok (.iconst 0, 1) := by decide +kernel
theorem dX10_hang_2 : decode cX10_hang 2 = .ok (.iconst 5, 1) := by decide +kernel
theorem dX10_hang_3 : decode cX10_hang 3 = .ok (.invokestatic 95, 3) := by decide +kernel
theorem dX10_hang_6 : decode cX10_hang 6 = .ok (.ifCond .ne 6, 3) := by decide +kernel
theorem dX10_hang_9 : decode cX10_hang 9 = .ok (.ldc 99, 2) := by decide +kernel
theorem dX10_hang_11 : decode cX10_hang 11 = .ok (.ireturn, 1) := by decide +kernel
theorem dX10_hang_12 : decode cX10_hang 12 = .ok (.aload_n 0, 1) := by decide +kernel
theorem dX10_hang_13 : decode cX10_hang 13 = .ok (.getfield 112, 3) := by decide +kernel
theorem dX10_hang_16 : decode cX10_hang 16 = .ok (.bipush 60, 2) := by decide +kernel
theorem dX10_hang_18 : decode cX10_hang 18 = .ok (.if_icmp .ne 6, 3) := by decide +kernel
theorem dX10_hang_21 : decode cX10_hang 21 = .ok (.ldc 104, 2) := by decide +kernel
theorem dX10_hang_23 : decode cX10_hang 23 = .ok (.ireturn, 1) := by decide +kernel
theorem dX10_hang_24 : decode cX10_hang 24 = .ok (.aload_n 0, 1) := by decide +kernel
theorem dX10_hang_25 : decode cX10_hang 25 = .ok (.dup, 1) := by decide +kernel
theorem dX10_hang_26 : decode cX10_hang 26 = .ok (.getfield 112, 3) := by decide +kernel
theorem dX10_hang_29 : decode cX10_hang 29 = .ok (.iconst 1, 1) := by decide +kernel
theorem dX10_hang_30 : decode cX10_hang 30 = .ok (.iadd, 1) := by decide +kernel
theorem dX10_hang_31 : decode cX10_hang 31 = .ok (.putfield 112, 3) := by decide +kernel
theorem dX10_hang_34 : decode cX10_hang 34 = .ok (.aload_n 0, 1) := by decide +kernel
theorem dX10_hang_35 : decode cX10_hang 35 = .ok (.getfield 68, 3) := by decide +kernel
theorem dX10_hang_38 : decode cX10_hang 38 = .ok (.iload_n 1, 1) := by decide +kernel
theorem dX10_hang_39 : decode cX10_hang 39 = .ok (.iconst 1, 1) := by decide +kernel
theorem dX10_hang_40 : decode cX10_hang 40 = .ok (.bastore, 1) := by decide +kernel
theorem dX10_hang_41 : decode cX10_hang 41 = .ok (.aload_n 0, 1) := by decide +kernel
theorem dX10_hang_42 : decode cX10_hang 42 = .ok (.getfield 71, 3) := by decide +kernel
theorem dX10_hang_45 : decode cX10_hang 45 = .ok (.iload_n 1, 1) := by decide +kernel
theorem dX10_hang_46 : decode cX10_hang 46 = .ok (.iload_n 2, 1) := by decide +kernel
theorem dX10_hang_47 : decode cX10_hang 47 = .ok (.iastore, 1) := by decide +kernel
theorem dX10_hang_48 : decode cX10_hang 48 = .ok (.iconst 1, 1) := by decide +kernel
theorem dX10_hang_49 : decode cX10_hang 49 = .ok (.ireturn, 1) := by decide +kernel
theorem dX10_come_0 : decode cX10_come 0 = .ok (.aload_n 0, 1) := by decide +kernel
theorem dX10_come_1 : decode cX10_come 1 = .ok (.iload_n 1, 1) := by decide +kernel
theorem dX10_come_2 : decode cX10_come 2 = .ok (.putfield 115, 3) := by decide +kernel
theorem dX10_come_5 : decode cX10_come 5 = .ok (.iconst 0, 1) := by decide +kernel
theorem dX10_come_6 : decode cX10_come 6 = .ok (.ireturn, 1) := by decide +kernel
theorem dX10_groom_0 : decode cX10_groom 0 = .ok (.aload_n 0, 1) := by decide +kernel
theorem dX10_groom_1 : decode cX10_groom 1 = .ok (.getfield 22, 3) := by decide +kernel
theorem dX10_groom_4 : decode cX10_groom 4 = .ok (.iload_n 1, 1) := by decide +kernel
theorem dX10_groom_5 : decode cX10_groom 5 = .ok (.dup2, 1) := by decide +kernel
theorem dX10_groom_6 : decode cX10_groom 6 = .ok (.iaload, 1) := by decide +kernel
theorem dX10_groom_7 : decode cX10_groom 7 = .ok (.aload_n 0, 1) := by decide +kernel
theorem dX10_groom_8 : decode cX10_groom 8 = .ok (.getfield 7, 3) := by decide +kernel
theorem dX10_groom_11 : decode cX10_groom 11 = .ok (.iload_n 1, 1) := by decide +kernel
theorem dX10_groom_12 : decode cX10_groom 12 = .ok (.iaload, 1) := by decide +kernel
theorem dX10_groom_13 : decode cX10_groom 13 = .ok (.ifCond .ne 7, 3) := by decide +kernel
theorem dX10_groom_16 : decode cX10_groom 16 = .ok (.iconst 1, 1) := by decide +kernel
theorem dX10_groom_17 : decode cX10_groom 17 = .ok (.goto 4, 3) := by decide +kernel
theorem dX10_groom_20 : decode cX10_groom 20 = .ok (.iconst 2, 1) := by decide +kernel
theorem dX10_groom_21 : decode cX10_groom 21 = .ok (.iadd, 1) := by decide +kernel
theorem dX10_groom_22 : decode cX10_groom 22 = .ok (.iastore, 1) := by decide +kernel
theorem dX10_groom_23 : decode cX10_groom 23 = .ok (.aload_n 0, 1) := by decide +kernel
theorem dX10_groom_24 : decode cX10_groom 24 = .ok (.getfield 19, 3) := by decide +kernel
theorem dX10_groom_27 : decode cX10_groom 27 = .ok (.iload_n 1, 1) := by decide +kernel
theorem dX10_groom_28 : decode cX10_groom 28 = .ok (.aload_n 0, 1) := by decide +kernel
theorem dX10_groom_29 : decode cX10_groom 29 = .ok (.getfield 7, 3) := by decide +kernel
theorem dX10_groom_32 : decode cX10_groom 32 = .ok (.iload_n 1, 1) := by decide +kernel
theorem dX10_groom_33 : decode cX10_groom 33 = .ok (.iaload, 1) := by decide +kernel
theorem dX10_groom_34 : decode cX10_groom 34 = .ok (.iconst 2, 1) := by decide +kernel
theorem dX10_groom_35 : decode cX10_groom 35 = .ok (.if_icmp .ne 7, 3) := by decide +kernel
theorem dX10_groom_38 : decode cX10_groom 38 = .ok (.iconst 0, 1) := by decide +kernel
theorem dX10_groom_39 : decode cX10_groom 39 = .ok (.goto 9, 3) := by decide +kernel
theorem dX10_groom_42 : decode cX10_groom 42 = .ok (.aload_n 0, 1) := by decide +kernel
theorem dX10_groom_43 : decode cX10_groom 43 = .ok (.getfield 19, 3) := by decide +kernel
theorem dX10_groom_46 : decode cX10_groom 46 = .ok (.iload_n 1, 1) := by decide +kernel
theorem dX10_groom_47 : decode cX10_groom 47 = .ok (.iaload, 1) := by decide +kernel
theorem dX10_groom_48 : decode cX10_groom 48 = .ok (.iastore, 1) := by decide +kernel
theorem dX10_groom_49 : decode cX10_groom 49 = .ok (.aload_n 0, 1) := by decide +kernel
theorem dX10_groom_50 : decode cX10_groom 50 = .ok (.getfield 22, 3) := by decide +kernel
theorem dX10_groom_53 : decode cX10_groom 53 = .ok (.iload_n 1, 1) := by decide +kernel
theorem dX10_groom_54 : decode cX10_groom 54 = .ok (.iaload, 1) := by decide +kernel
theorem dX10_groom_55 : decode cX10_groom 55 = .ok (.ireturn, 1) := by decide +kernel
theorem dX10_work_0 : decode cX10_work 0 = .ok (.iload_n 1, 1) := by decide +kernel
theorem dX10_work_1 : decode cX10_work 1 = .ok (.bipush 100, 2) := by decide +kernel
theorem dX10_work_3 : decode cX10_work 3 = .ok (.if_icmp .lt 32, 3) := by decide +kernel
theorem dX10_work_6 : decode cX10_work 6 = .ok (.iload_n 1, 1) := by decide +kernel
theorem dX10_work_7 : decode cX10_work 7 = .ok (.bipush 100, 2) := by decide +kernel
theorem dX10_work_9 : decode cX10_work 9 = .ok (.isub, 1) := by decide +kernel
theorem dX10_work_10 : decode cX10_work 10 = .ok (.istore_n 3, 1) := by decide +kernel
theorem dX10_work_11 : decode cX10_work 11 = .ok (.aload_n 0, 1) := by decide +kernel
theorem dX10_work_12 : decode cX10_work 12 = .ok (.getfield 31, 3) := by decide +kernel
theorem dX10_work_15 : decode cX10_work 15 = .ok (.iload_n 3, 1) := by decide +kernel
theorem dX10_work_16 : decode cX10_work 16 = .ok (.dup2, 1) := by decide +kernel
theorem dX10_work_17 : decode cX10_work 17 = .ok (.iaload, 1) := by decide +kernel
theorem dX10_work_18 : decode cX10_work 18 = .ok (.iload_n 2, 1) := by decide +kernel
theorem dX10_work_19 : decode cX10_work 19 = .ok (.aload_n 0, 1) := by decide +kernel
theorem dX10_work_20 : decode cX10_work 20 = .ok (.getfield 28, 3) := by decide +kernel
theorem dX10_work_23 : decode cX10_work 23 = .ok (.iload_n 3, 1) := by decide +kernel
theorem dX10_work_24 : decode cX10_work 24 = .ok (.iaload, 1) := by decide +kernel
theorem dX10_work_25 : decode cX10_work 25 = .ok (.imul, 1) := by decide +kernel
theorem dX10_work_26 : decode cX10_work 26 = .ok (.iadd, 1) := by decide +kernel
theorem dX10_work_27 : decode cX10_work 27 = .ok (.iastore, 1) := by decide +kernel
theorem dX10_work_28 : decode cX10_work 28 = .ok (.aload_n 0, 1) := by decide +kernel
theorem dX10_work_29 : decode cX10_work 29 = .ok (.getfield 31, 3) := by decide +kernel
theorem dX10_work_32 : decode cX10_work 32 = .ok (.iload_n 3, 1) := by decide +kernel
theorem dX10_work_33 : decode cX10_work 33 = .ok (.iaload, 1) := by decide +kernel
theorem dX10_work_34 : decode cX10_work 34 = .ok (.ireturn, 1) := by decide +kernel
theorem dX10_work_35 : decode cX10_work 35 = .ok (.aload_n 0, 1) := by decide +kernel
theorem dX10_work_36 : decode cX10_work 36 = .ok (.getfield 25, 3) := by decide +kernel
theorem dX10_work_39 : decode cX10_work 39 = .ok (.iload_n 1, 1) := by decide +kernel
theorem dX10_work_40 : decode cX10_work 40 = .ok (.dup2, 1) := by decide +kernel
theorem dX10_work_41 : decode cX10_work 41 = .ok (.iaload, 1) := by decide +kernel
theorem dX10_work_42 : decode cX10_work 42 = .ok (.aload_n 0, 1) := by decide +kernel
theorem dX10_work_43 : decode cX10_work 43 = .ok (.getfield 7, 3) := by decide +kernel
theorem dX10_work_46 : decode cX10_work 46 = .ok (.iload_n 1, 1) := by decide +kernel
theorem dX10_work_47 : decode cX10_work 47 = .ok (.iaload, 1) := by decide +kernel
theorem dX10_work_48 : decode cX10_work 48 = .ok (.ifCond .ne 7, 3) := by decide +kernel
theorem dX10_work_51 : decode cX10_work 51 = .ok (.iload_n 2, 1) := by decide +kernel
theorem dX10_work_52 : decode cX10_work 52 = .ok (.goto 24, 3) := by decide +kernel
theorem dX10_work_55 : decode cX10_work 55 = .ok (.aload_n 0, 1) := by decide +kernel
theorem dX10_work_56 : decode cX10_work 56 = .ok (.getfield 7, 3) := by decide +kernel
theorem dX10_work_59 : decode cX10_work 59 = .ok (.iload_n 1, 1) := by decide +kernel
theorem dX10_work_60 : decode cX10_work 60 = .ok (.iaload, 1) := by decide +kernel
theorem dX10_work_61 : decode cX10_work 61 = .ok (.iconst 1, 1) := by decide +kernel
theorem dX10_work_62 : decode cX10_work 62 = .ok (.if_icmp .ne 9, 3) := by decide +kernel
theorem dX10_work_65 : decode cX10_work 65 = .ok (.iconst 2, 1) := by decide +kernel
theorem dX10_work_66 : decode cX10_work 66 = .ok (.iload_n 2, 1) := by decide +kernel
theorem dX10_work_67 : decode cX10_work 67 = .ok (.imul, 1) := by decide +kernel
theorem dX10_work_68 : decode cX10_work 68 = .ok (.goto 8, 3) := by decide +kernel
theorem dX10_work_71 : decode cX10_work 71 = .ok (.iconst 2, 1) := by decide +kernel
theorem dX10_work_72 : decode cX10_work 72 = .ok (.iload_n 2, 1) := by decide +kernel
theorem dX10_work_73 : decode cX10_work 73 = .ok (.imul, 1) := by decide +kernel
theorem dX10_work_74 : decode cX10_work 74 = .ok (.iconst 1, 1) := by decide +kernel
theorem dX10_work_75 : decode cX10_work 75 = .ok (.iadd, 1) := by decide +kernel
theorem dX10_work_76 : decode cX10_work 76 = .ok (.iadd, 1) := by decide +kernel
theorem dX10_work_77 : decode cX10_work 77 = .ok (.iastore, 1) := by decide +kernel
theorem dX10_work_78 : decode cX10_work 78 = .ok (.aload_n 0, 1) := by decide +kernel
theorem dX10_work_79 : decode cX10_work 79 = .ok (.getfield 25, 3) := by decide +kernel
theorem dX10_work_82 : decode cX10_work 82 = .ok (.iload_n 1, 1) := by decide +kernel
theorem dX10_work_83 : decode cX10_work 83 = .ok (.iaload, 1) := by decide +kernel
theorem dX10_work_84 : decode cX10_work 84 = .ok (.ireturn, 1) := by decide +kernel
set_option maxRecDepth 20000 in
theorem ggX10_does_X10_modulo : GoodIn wsX10_does wsX10_modulo := goodIn_r _ [9] (by decide +kernel) (by decide +kernel)
set_option maxRecDepth 20000 in
theorem gX10_does_X10_modulo : GoodIn wsX10_does (va_wsS RX10 118 yX10_modulo wsX10_modulo) := goodIn_app (goodIn_of _ (by decide +kernel)) ggX10_does_X10_modulo
set_option maxRecDepth 20000 in
theorem ggX10_does_X10_ofStall : GoodIn wsX10_does wsX10_ofStall := goodIn_r _ [13, 14, 15, 3, 16, 17, 18, 19, 8, 20, 21, 22, 23, 24, 25, 26, 69, 70, 71, 72, 73, 74, 75, 76, 77, 78, 79, 80, 81, 82, 83, 84, 85, 86, 87, 88, 89, 90, 91, 92, 93, 94, 95, 96, 97, 98, 99, 100, 101, 102, 103] (by decide +kernel) (by decide +kernel)
set_option maxRecDepth 20000 in
theorem gX10_does_X10_ofStall : GoodIn wsX10_does (wsV RX10 122 RX10 yX10_ofStall wsX10_ofStall) := goodIn_app (goodIn_of _ (by decide +kernel)) ggX10_does_X10_ofStall
set_option maxRecDepth 20000 in
theorem ggX10_does_X10_work : GoodIn wsX10_does wsX10_work := goodIn_r _ [30, 31, 32, 33, 14, 69, 70, 71, 72, 73, 74, 75, 76, 77, 78, 79, 80, 81, 82, 83, 84, 85, 86, 87, 88, 89, 90, 91, 92, 93, 94, 95, 96, 97, 98, 99, 100, 101, 102, 103] (by decide +kernel) (by decide +kernel)
set_option maxRecDepth 20000 in
theorem gX10_does_X10_work : GoodIn wsX10_does (wsV RX10 126 RX10 yX10_work wsX10_work) := goodIn_app (goodIn_of _ (by decide +kernel)) ggX10_does_X10_work
set_option maxRecDepth 20000 in
theorem ggX10_does_X10_come : GoodIn wsX10_does wsX10_come := goodIn_r _ [20, 21, 69, 70, 71, 72, 73, 74, 75, 76, 77, 78, 79, 80, 81, 82, 83, 84, 85, 86, 87, 88, 89, 90, 91, 92, 93, 94, 95, 96, 97, 98, 99, 100, 101, 102, 103] (by decide +kernel) (by decide +kernel)
set_option maxRecDepth 20000 in
theorem gX10_does_X10_come : GoodIn wsX10_does (wsV RX10 129 RX10 yX10_come wsX10_come) := goodIn_app (goodIn_of _ (by decide +kernel)) ggX10_does_X10_come
set_option maxRecDepth 20000 in
theorem ggX10_does_X10_ofTeam : GoodIn wsX10_does wsX10_ofTeam := goodIn_r _ [37, 38, 39, 40, 1, 41, 42, 8, 43, 6, 7, 9, 17, 18, 19, 20, 21, 44, 45, 46, 47, 27, 28, 29, 30, 31, 32, 33, 14, 48, 49, 50, 51, 52, 53, 54, 69, 70, 71, 72, 73, 74, 75, 76, 77, 78, 79, 80, 81, 82, 83, 84, 85, 86, 87, 88, 89, 90, 91, 92, 93, 94, 95, 96, 97, 98, 99, 100, 101, 102, 103] (by decide +kernel) (by decide +kernel)
set_option maxRecDepth 20000 in
theorem gX10_does_X10_ofTeam : GoodIn wsX10_does (wsV RX10 133 RX10 yX10_ofTeam wsX10_ofTeam) := goodIn_app (goodIn_of _ (by decide +kernel)) ggX10_does_X10_ofTeam
set_option maxRecDepth 20000 in
theorem ggX10_does_X10_ofLedger : GoodIn wsX10_does wsX10_ofLedger := goodIn_r _ [58, 59, 60, 41, 42, 8, 43, 17, 18, 19, 20, 21, 48, 49, 50, 69, 70, 71, 72, 73, 74, 75, 76, 77, 78, 79, 80, 81, 82, 83, 84, 85, 86, 87, 88, 89, 90, 91, 92, 93, 94, 95, 96, 97, 98, 99, 100, 101, 102, 103] (by decide +kernel) (by decide +kernel)
set_option maxRecDepth 20000 in
theorem gX10_does_X10_ofLedger : GoodIn wsX10_does (wsV RX10 137 RX10 yX10_ofLedger wsX10_ofLedger) := goodIn_app (goodIn_of _ (by decide +kernel)) ggX10_does_X10_ofLedger
set_option maxRecDepth 20000 in
theorem ggX10_does_X10_ofTable : GoodIn wsX10_does wsX10_ofTable := goodIn_r _ [64, 65, 66, 67, 68, 41, 42, 8, 43, 17, 18, 19, 20, 21, 48, 49, 50, 69, 70, 71, 72, 73, 74, 75, 76, 77, 78, 79, 80, 81, 82, 83, 84, 85, 86, 87, 88, 89, 90, 91, 92, 93, 94, 95, 96, 97, 98, 99, 100, 101, 102, 103] (by decide +kernel) (by decide +kernel)
set_option maxRecDepth 20000 in
theorem gX10_does_X10_ofTable : GoodIn wsX10_does (wsV RX10 140 RX10 yX10_ofTable wsX10_ofTable) := goodIn_app (goodIn_of _ (by decide +kernel)) ggX10_does_X10_ofTable
theorem dX10_does_0 : decode cX10_does 0 = .ok (.iload_n 1, 1) := by decide +kernel
theorem dX10_does_1 : decode cX10_does 1 = .ok (.iconst 4, 1) := by decide +kernel
theorem dX10_does_2 : decode cX10_does 2 = .ok (.if_icmp .lt 9, 3) := by decide +kernel
theorem dX10_does_5 : decode cX10_does 5 = .ok (.iload_n 1, 1) := by decide +kernel
theorem dX10_does_6 : decode cX10_does 6 = .ok (.bipush 6, 2) := by decide +kernel
theorem dX10_does_8 : decode cX10_does 8 = .ok (.if_icmp .ne 21, 3) := by decide +kernel
theorem dX10_does_11 : decode cX10_does 11 = .ok (.aload_n 0, 1) := by decide +kernel
theorem dX10_does_12 : decode cX10_does 12 = .ok (.iload_n 1, 1) := by decide +kernel
theorem dX10_does_13 : decode cX10_does 13 = .ok (.aload_n 0, 1) := by decide +kernel
theorem dX10_does_14 : decode cX10_does 14 = .ok (.getfield 34, 3) := by decide +kernel
theorem dX10_does_17 : decode cX10_does 17 = .ok (.iload_n 2, 1) := by decide +kernel
theorem dX10_does_18 : decode cX10_does 18 = .ok (.bipush 10, 2) := by decide +kernel
theorem dX10_does_20 : decode cX10_does 20 = .ok (.invokestatic 118, 3) := by decide +kernel
theorem dX10_does_23 : decode cX10_does 23 = .ok (.iaload, 1) := by decide +kernel
theorem dX10_does_24 : decode cX10_does 24 = .ok (.iload_n 3, 1) := by decide +kernel
theorem dX10_does_25 : decode cX10_does 25 = .ok (.invokevirtual 122, 3) := by decide +kernel
theorem dX10_does_28 : decode cX10_does 28 = .ok (.ireturn, 1) := by decide +kernel
theorem dX10_does_29 : decode cX10_does 29 = .ok (.iload_n 1, 1) := by decide +kernel
theorem dX10_does_30 : decode cX10_does 30 = .ok (.bipush 6, 2) := by decide +kernel
theorem dX10_does_32 : decode cX10_does 32 = .ok (.if_icmp .ge 66, 3) := by decide +kernel
theorem dX10_does_35 : decode cX10_does 35 = .ok (.aload_n 0, 1) := by decide +kernel
theorem dX10_does_36 : decode cX10_does 36 = .ok (.getfield 37, 3) := by decide +kernel
theorem dX10_does_39 : decode cX10_does 39 = .ok (.iload_n 2, 1) := by decide +kernel
theorem dX10_does_40 : decode cX10_does 40 = .ok (.bipush 6, 2) := by decide +kernel
theorem dX10_does_42 : decode cX10_does 42 = .ok (.invokestatic 118, 3) := by decide +kernel
theorem dX10_does_45 : decode cX10_does 45 = .ok (.iaload, 1) := by decide +kernel
theorem dX10_does_46 : decode cX10_does 46 = .ok (.istore 5, 2) := by decide +kernel
theorem dX10_does_48 : decode cX10_does 48 = .ok (.iload_n 1, 1) := by decide +kernel
theorem dX10_does_49 : decode cX10_does 49 = .ok (.iconst 5, 1) := by decide +kernel
theorem dX10_does_50 : decode cX10_does 50 = .ok (.if_icmp .ne 12, 3) := by decide +kernel
theorem dX10_does_53 : decode cX10_does 53 = .ok (.iload 5, 2) := by decide +kernel
theorem dX10_does_55 : decode cX10_does 55 = .ok (.bipush 100, 2) := by decide +kernel
theorem dX10_does_57 : decode cX10_does 57 = .ok (.if_icmp .lt 5, 3) := by decide +kernel
theorem dX10_does_60 : decode cX10_does 60 = .ok (.iconst 3, 1) := by decide +kernel
theorem dX10_does_61 : decode cX10_does 61 = .ok (.ireturn, 1) := by decide +kernel
theorem dX10_does_62 : decode cX10_does 62 = .ok (.iload 5, 2) := by decide +kernel
theorem dX10_does_64 : decode cX10_does 64 = .ok (.ifCond .ge 7, 3) := by decide +kernel
theorem dX10_does_67 : decode cX10_does 67 = .ok (.iconst 1, 1) := by decide +kernel
theorem dX10_does_68 : decode cX10_does 68 = .ok (.goto 29, 3) := by decide +kernel
theorem dX10_does_71 : decode cX10_does 71 = .ok (.aload_n 0, 1) := by decide +kernel
theorem dX10_does_72 : decode cX10_does 72 = .ok (.iload_n 1, 1) := by decide +kernel
theorem dX10_does_73 : decode cX10_does 73 = .ok (.iconst 4, 1) := by decide +kernel
theorem dX10_does_74 : decode cX10_does 74 = .ok (.if_icmp .ne 13, 3) := by decide +kernel
theorem dX10_does_77 : decode cX10_does 77 = .ok (.aload_n 0, 1) := by decide +kernel
theorem dX10_does_78 : decode cX10_does 78 = .ok (.iload 5, 2) := by decide +kernel
theorem dX10_does_80 : decode cX10_does 80 = .ok (.iload_n 3, 1) := by decide +kernel
theorem dX10_does_81 : decode cX10_does 81 = .ok (.invokevirtual 126, 3) := by decide +kernel
theorem dX10_does_84 : decode cX10_does 84 = .ok (.goto 10, 3) := by decide +kernel
theorem dX10_does_87 : decode cX10_does 87 = .ok (.aload_n 0, 1) := by decide +kernel
theorem dX10_does_88 : decode cX10_does 88 = .ok (.getfield 13, 3) := by decide +kernel
theorem dX10_does_91 : decode cX10_does 91 = .ok (.iload 5, 2) := by decide +kernel
theorem dX10_does_93 : decode cX10_does 93 = .ok (.iaload, 1) := by decide +kernel
theorem dX10_does_94 : decode cX10_does 94 = .ok (.invokevirtual 129, 3) := by decide +kernel
theorem dX10_does_97 : decode cX10_does 97 = .ok (.ireturn, 1) := by decide +kernel
theorem dX10_does_98 : decode cX10_does 98 = .ok (.iload_n 1, 1) := by decide +kernel
theorem dX10_does_99 : decode cX10_does 99 = .ok (.bipush 12, 2) := by decide +kernel
theorem dX10_does_101 : decode cX10_does 101 = .ok (.if_icmp .ge 18, 3) := by decide +kernel
theorem dX10_does_104 : decode cX10_does 104 = .ok (.aload_n 0, 1) := by decide +kernel
theorem dX10_does_105 : decode cX10_does 105 = .ok (.iload_n 1, 1) := by decide +kernel
theorem dX10_does_106 : decode cX10_does 106 = .ok (.iload_n 2, 1) := by decide +kernel
theorem dX10_does_107 : decode cX10_does 107 = .ok (.bipush 6, 2) := by decide +kernel
theorem dX10_does_109 : decode cX10_does 109 = .ok (.invokestatic 118, 3) := by decide +kernel
theorem dX10_does_112 : decode cX10_does 112 = .ok (.iload_n 3, 1) := by decide +kernel
theorem dX10_does_113 : decode cX10_does 113 = .ok (.iload 4, 2) := by decide +kernel
theorem dX10_does_115 : decode cX10_does 115 = .ok (.invokevirtual 133, 3) := by decide +kernel
theorem dX10_does_118 : decode cX10_does 118 = .ok (.ireturn, 1) := by decide +kernel
theorem dX10_does_119 : decode cX10_does 119 = .ok (.iload_n 1, 1) := by decide +kernel
theorem dX10_does_120 : decode cX10_does 120 = .ok (.bipush 15, 2) := by decide +kernel
theorem dX10_does_122 : decode cX10_does 122 = .ok (.if_icmp .ge 17, 3) := by decide +kernel
theorem dX10_does_125 : decode cX10_does 125 = .ok (.aload_n 0, 1) := by decide +kernel
theorem dX10_does_126 : decode cX10_does 126 = .ok (.iload_n 1, 1) := by decide +kernel
theorem dX10_does_127 : decode cX10_does 127 = .ok (.iload_n 2, 1) := by decide +kernel
theorem dX10_does_128 : decode cX10_does 128 = .ok (.iconst 4, 1) := by decide +kernel
theorem dX10_does_129 : decode cX10_does 129 = .ok (.invokestatic 118, 3) := by decide +kernel
theorem dX10_does_132 : decode cX10_does 132 = .ok (.iload_n 3, 1) := by decide +kernel
theorem dX10_does_133 : decode cX10_does 133 = .ok (.iload 4, 2) := by decide +kernel
theorem dX10_does_135 : decode cX10_does 135 = .ok (.invokevirtual 137, 3) := by decide +kernel
theorem dX10_does_138 : decode cX10_does 138 = .ok (.ireturn, 1) := by decide +kernel
theorem dX10_does_139 : decode cX10_does 139 = .ok (.iload_n 1, 1) := by decide +kernel
theorem dX10_does_140 : decode cX10_does 140 = .ok (.bipush 17, 2) := by decide +kernel
theorem dX10_does_142 : decode cX10_does 142 = .ok (.if_icmp .ge 17, 3) := by decide +kernel
theorem dX10_does_145 : decode cX10_does 145 = .ok (.aload_n 0, 1) := by decide +kernel
theorem dX10_does_146 : decode cX10_does 146 = .ok (.iload_n 1, 1) := by decide +kernel
theorem dX10_does_147 : decode cX10_does 147 = .ok (.iload_n 2, 1) := by decide +kernel
theorem dX10_does_148 : decode cX10_does 148 = .ok (.iconst 4, 1) := by decide +kernel
theorem dX10_does_149 : decode cX10_does 149 = .ok (.invokestatic 118, 3) := by decide +kernel
theorem dX10_does_152 : decode cX10_does 152 = .ok (.iload_n 3, 1) := by decide +kernel
theorem dX10_does_153 : decode cX10_does 153 = .ok (.iload 4, 2) := by decide +kernel
theorem dX10_does_155 : decode cX10_does 155 = .ok (.invokevirtual 140, 3) := by decide +kernel
theorem dX10_does_158 : decode cX10_does 158 = .ok (.ireturn, 1) := by decide +kernel
theorem dX10_does_159 : decode cX10_does 159 = .ok (.iload_n 2, 1) := by decide +kernel
theorem dX10_does_160 : decode cX10_does 160 = .ok (.bipush 6, 2) := by decide +kernel
theorem dX10_does_162 : decode cX10_does 162 = .ok (.invokestatic 118, 3) := by decide +kernel
theorem dX10_does_165 : decode cX10_does 165 = .ok (.istore 5, 2) := by decide +kernel
theorem dX10_does_167 : decode cX10_does 167 = .ok (.aload_n 0, 1) := by decide +kernel
theorem dX10_does_168 : decode cX10_does 168 = .ok (.getfield 68, 3) := by decide +kernel
theorem dX10_does_171 : decode cX10_does 171 = .ok (.iload 5, 2) := by decide +kernel
theorem dX10_does_173 : decode cX10_does 173 = .ok (.baload, 1) := by decide +kernel
theorem dX10_does_174 : decode cX10_does 174 = .ok (.ifCond .ne 5, 3) := by decide +kernel
theorem dX10_does_177 : decode cX10_does 177 = .ok (.iconst 1, 1) := by decide +kernel
theorem dX10_does_178 : decode cX10_does 178 = .ok (.ireturn, 1) := by decide +kernel
theorem dX10_does_179 : decode cX10_does 179 = .ok (.aload_n 0, 1) := by decide +kernel
theorem dX10_does_180 : decode cX10_does 180 = .ok (.aload_n 0, 1) := by decide +kernel
theorem dX10_does_181 : decode cX10_does 181 = .ok (.getfield 71, 3) := by decide +kernel
theorem dX10_does_184 : decode cX10_does 184 = .ok (.iload 5, 2) := by decide +kernel
theorem dX10_does_186 : decode cX10_does 186 = .ok (.iaload, 1) := by decide +kernel
theorem dX10_does_187 : decode cX10_does 187 = .ok (.invokevirtual 129, 3) := by decide +kernel
theorem dX10_does_190 : decode cX10_does 190 = .ok (.pop, 1) := by decide +kernel
theorem dX10_does_191 : decode cX10_does 191 = .ok (.bipush 6, 2) := by decide +kernel
theorem dX10_does_193 : decode cX10_does 193 = .ok (.ireturn, 1) := by decide +kernel
set_option maxRecDepth 20000 in
theorem ggX10_ofStall_X10_come : GoodIn wsX10_ofStall wsX10_come := goodIn_r _ [9, 10, 16, 17, 18, 19, 20, 21, 22, 23, 24, 25, 26, 27, 28, 29, 30, 31, 32, 33, 34, 35, 36, 37, 38, 39, 40, 41, 42, 43, 44, 45, 46, 47, 48, 49, 50] (by decide +kernel) (by decide +kernel)
set_option maxRecDepth 20000 in
theorem gX10_ofStall_X10_come : GoodIn wsX10_ofStall (wsV RX10 129 RX10 yX10_come wsX10_come) := goodIn_app (goodIn_of _ (by decide +kernel)) ggX10_ofStall_X10_come
set_option maxRecDepth 20000 in
theorem ggX10_ofStall_X10_groom : GoodIn wsX10_ofStall wsX10_groom := goodIn_r _ [14, 15, 1, 4, 16, 17, 18, 19, 20, 21, 22, 23, 24, 25, 26, 27, 28, 29, 30, 31, 32, 33, 34, 35, 36, 37, 38, 39, 40, 41, 42, 43, 44, 45, 46, 47, 48, 49, 50] (by decide +kernel) (by decide +kernel)
set_option maxRecDepth 20000 in
theorem gX10_ofStall_X10_groom : GoodIn wsX10_ofStall (wsV RX10 143 RX10 yX10_groom wsX10_groom) := goodIn_app (goodIn_of _ (by decide +kernel)) ggX10_ofStall_X10_groom
theorem dX10_ofStall_0 : decode cX10_ofStall 0 = .ok (.iload_n 1, 1) := by decide +kernel
theorem dX10_ofStall_1 : decode cX10_ofStall 1 = .ok (.bipush 6, 2) := by decide +kernel
theorem dX10_ofStall_3 : decode cX10_ofStall 3 = .ok (.if_icmp .ne 19, 3) := by decide +kernel
theorem dX10_ofStall_6 : decode cX10_ofStall 6 = .ok (.iload_n 2, 1) := by decide +kernel
theorem dX10_ofStall_7 : decode cX10_ofStall 7 = .ok (.ifCond .lt 15, 3) := by decide +kernel
theorem dX10_ofStall_10 : decode cX10_ofStall 10 = .ok (.aload_n 0, 1) := by decide +kernel
theorem dX10_ofStall_11 : decode cX10_ofStall 11 = .ok (.getfield 7, 3) := by decide +kernel
theorem dX10_ofStall_14 : decode cX10_ofStall 14 = .ok (.iload_n 2, 1) := by decide +kernel
theorem dX10_ofStall_15 : decode cX10_ofStall 15 = .ok (.iaload, 1) := by decide +kernel
theorem dX10_ofStall_16 : decode cX10_ofStall 16 = .ok (.iconst 2, 1) := by decide +kernel
theorem dX10_ofStall_17 : decode cX10_ofStall 17 = .ok (.if_icmp .eq 5, 3) := by decide +kernel
theorem dX10_ofStall_20 : decode cX10_ofStall 20 = .ok (.iconst 3, 1) := by decide +kernel
theorem dX10_ofStall_21 : decode cX10_ofStall 21 = .ok (.ireturn, 1) := by decide +kernel
theorem dX10_ofStall_22 : decode cX10_ofStall 22 = .ok (.iload_n 2, 1) := by decide +kernel
theorem dX10_ofStall_23 : decode cX10_ofStall 23 = .ok (.ifCond .ge 5, 3) := by decide +kernel
theorem dX10_ofStall_26 : decode cX10_ofStall 26 = .ok (.iconst 1, 1) := by decide +kernel
theorem dX10_ofStall_27 : decode cX10_ofStall 27 = .ok (.ireturn, 1) := by decide +kernel
theorem dX10_ofStall_28 : decode cX10_ofStall 28 = .ok (.iload_n 1, 1) := by decide +kernel
theorem dX10_ofStall_29 : decode cX10_ofStall 29 = .ok (.tableswitch 86 0 3 #[31, 52, 63, 76], 31) := by decide +kernel
theorem dX10_ofStall_60 : decode cX10_ofStall 60 = .ok (.aload_n 0, 1) := by decide +kernel
theorem dX10_ofStall_61 : decode cX10_ofStall 61 = .ok (.getfield 16, 3) := by decide +kernel
theorem dX10_ofStall_64 : decode cX10_ofStall 64 = .ok (.iload_n 2, 1) := by decide +kernel
theorem dX10_ofStall_65 : decode cX10_ofStall 65 = .ok (.dup2, 1) := by decide +kernel
theorem dX10_ofStall_66 : decode cX10_ofStall 66 = .ok (.iaload, 1) := by decide +kernel
theorem dX10_ofStall_67 : decode cX10_ofStall 67 = .ok (.iload_n 3, 1) := by decide +kernel
theorem dX10_ofStall_68 : decode cX10_ofStall 68 = .ok (.iadd, 1) := by decide +kernel
theorem dX10_ofStall_69 : decode cX10_ofStall 69 = .ok (.iastore, 1) := by decide +kernel
theorem dX10_ofStall_70 : decode cX10_ofStall 70 = .ok (.aload_n 0, 1) := by decide +kernel
theorem dX10_ofStall_71 : decode cX10_ofStall 71 = .ok (.aload_n 0, 1) := by decide +kernel
theorem dX10_ofStall_72 : decode cX10_ofStall 72 = .ok (.getfield 16, 3) := by decide +kernel
theorem dX10_ofStall_75 : decode cX10_ofStall 75 = .ok (.iload_n 2, 1) := by decide +kernel
theorem dX10_ofStall_76 : decode cX10_ofStall 76 = .ok (.iaload, 1) := by decide +kernel
theorem dX10_ofStall_77 : decode cX10_ofStall 77 = .ok (.invokevirtual 129, 3) := by decide +kernel
theorem dX10_ofStall_80 : decode cX10_ofStall 80 = .ok (.ireturn, 1) := by decide +kernel
theorem dX10_ofStall_81 : decode cX10_ofStall 81 = .ok (.aload_n 0, 1) := by decide +kernel
theorem dX10_ofStall_82 : decode cX10_ofStall 82 = .ok (.aload_n 0, 1) := by decide +kernel
theorem dX10_ofStall_83 : decode cX10_ofStall 83 = .ok (.getfield 13, 3) := by decide +kernel
theorem dX10_ofStall_86 : decode cX10_ofStall 86 = .ok (.iload_n 2, 1) := by decide +kernel
theorem dX10_ofStall_87 : decode cX10_ofStall 87 = .ok (.iaload, 1) := by decide +kernel
theorem dX10_ofStall_88 : decode cX10_ofStall 88 = .ok (.invokevirtual 129, 3) := by decide +kernel
theorem dX10_ofStall_91 : decode cX10_ofStall 91 = .ok (.ireturn, 1) := by decide +kernel
theorem dX10_ofStall_92 : decode cX10_ofStall 92 = .ok (.aload_n 0, 1) := by decide +kernel
theorem dX10_ofStall_93 : decode cX10_ofStall 93 = .ok (.getfield 19, 3) := by decide +kernel
theorem dX10_ofStall_96 : decode cX10_ofStall 96 = .ok (.iload_n 2, 1) := by decide +kernel
theorem dX10_ofStall_97 : decode cX10_ofStall 97 = .ok (.iload_n 3, 1) := by decide +kernel
theorem dX10_ofStall_98 : decode cX10_ofStall 98 = .ok (.iastore, 1) := by decide +kernel
theorem dX10_ofStall_99 : decode cX10_ofStall 99 = .ok (.aload_n 0, 1) := by decide +kernel
theorem dX10_ofStall_100 : decode cX10_ofStall 100 = .ok (.iconst 0, 1) := by decide +kernel
theorem dX10_ofStall_101 : decode cX10_ofStall 101 = .ok (.invokevirtual 129, 3) := by decide +kernel
theorem dX10_ofStall_104 : decode cX10_ofStall 104 = .ok (.ireturn, 1) := by decide +kernel
theorem dX10_ofStall_105 : decode cX10_ofStall 105 = .ok (.aload_n 0, 1) := by decide +kernel
theorem dX10_ofStall_106 : decode cX10_ofStall 106 = .ok (.aload_n 0, 1) := by decide +kernel
theorem dX10_ofStall_107 : decode cX10_ofStall 107 = .ok (.iload_n 2, 1) := by decide +kernel
theorem dX10_ofStall_108 : decode cX10_ofStall 108 = .ok (.invokevirtual 143, 3) := by decide +kernel
theorem dX10_ofStall_111 : decode cX10_ofStall 111 = .ok (.invokevirtual 129, 3) := by decide +kernel
theorem dX10_ofStall_114 : decode cX10_ofStall 114 = .ok (.ireturn, 1) := by decide +kernel
theorem dX10_ofStall_115 : decode cX10_ofStall 115 = .ok (.aload_n 0, 1) := by decide +kernel
theorem dX10_ofStall_116 : decode cX10_ofStall 116 = .ok (.aload_n 0, 1) := by decide +kernel
theorem dX10_ofStall_117 : decode cX10_ofStall 117 = .ok (.getfield 19, 3) := by decide +kernel
theorem dX10_ofStall_120 : decode cX10_ofStall 120 = .ok (.iload_n 2, 1) := by decide +kernel
theorem dX10_ofStall_121 : decode cX10_ofStall 121 = .ok (.iaload, 1) := by decide +kernel
theorem dX10_ofStall_122 : decode cX10_ofStall 122 = .ok (.invokevirtual 129, 3) := by decide +kernel
theorem dX10_ofStall_125 : decode cX10_ofStall 125 = .ok (.ireturn, 1) := by decide +kernel
theorem dX10_isFor_0 : decode cX10_isFor 0 = .ok (.iload_n 2, 1) := by decide +kernel
theorem dX10_isFor_1 : decode cX10_isFor 1 = .ok (.ifCond .lt 18, 3) := by decide +kernel
theorem dX10_isFor_4 : decode cX10_isFor 4 = .ok (.aload_n 0, 1) := by decide +kernel
theorem dX10_isFor_5 : decode cX10_isFor 5 = .ok (.getfield 7, 3) := by decide +kernel
theorem dX10_isFor_8 : decode cX10_isFor 8 = .ok (.iload_n 2, 1) := by decide +kernel
theorem dX10_isFor_9 : decode cX10_isFor 9 = .ok (.iaload, 1) := by decide +kernel
theorem dX10_isFor_10 : decode cX10_isFor 10 = .ok (.aload_n 0, 1) := by decide +kernel
theorem dX10_isFor_11 : decode cX10_isFor 11 = .ok (.getfield 43, 3) := by decide +kernel
theorem dX10_isFor_14 : decode cX10_isFor 14 = .ok (.iload_n 1, 1) := by decide +kernel
theorem dX10_isFor_15 : decode cX10_isFor 15 = .ok (.iaload, 1) := by decide +kernel
theorem dX10_isFor_16 : decode cX10_isFor 16 = .ok (.if_icmp .lt 7, 3) := by decide +kernel
theorem dX10_isFor_19 : decode cX10_isFor 19 = .ok (.iconst 1, 1) := by decide +kernel
theorem dX10_isFor_20 : decode cX10_isFor 20 = .ok (.goto 4, 3) := by decide +kernel
theorem dX10_isFor_23 : decode cX10_isFor 23 = .ok (.iconst 0, 1) := by decide +kernel
theorem dX10_isFor_24 : decode cX10_isFor 24 = .ok (.ireturn, 1) := by decide +kernel
set_option maxRecDepth 20000 in
theorem ggX10_ofTeam_X10_least : GoodIn wsX10_ofTeam wsX10_least := goodIn_r _ [8] (by decide +kernel) (by decide +kernel)
set_option maxRecDepth 20000 in
theorem gX10_ofTeam_X10_least : GoodIn wsX10_ofTeam (va_wsS RX10 146 yX10_least wsX10_least) := goodIn_app (goodIn_of _ (by decide +kernel)) ggX10_ofTeam_X10_least
set_option maxRecDepth 20000 in
theorem ggX10_ofTeam_X10_modulo : GoodIn wsX10_ofTeam wsX10_modulo := goodIn_r _ [11] (by decide +kernel) (by decide +kernel)
set_option maxRecDepth 20000 in
theorem gX10_ofTeam_X10_modulo : GoodIn wsX10_ofTeam (va_wsS RX10 118 yX10_modulo wsX10_modulo) := goodIn_app (goodIn_of _ (by decide +kernel)) ggX10_ofTeam_X10_modulo
set_option maxRecDepth 20000 in
theorem ggX10_ofTeam_X10_come : GoodIn wsX10_ofTeam wsX10_come := goodIn_r _ [15, 16, 36, 37, 38, 39, 40, 41, 42, 43, 44, 45, 46, 47, 48, 49, 50, 51, 52, 53, 54, 55, 56, 57, 58, 59, 60, 61, 62, 63, 64, 65, 66, 67, 68, 69, 70] (by decide +kernel) (by decide +kernel)
set_option maxRecDepth 20000 in
theorem gX10_ofTeam_X10_come : GoodIn wsX10_ofTeam (wsV RX10 129 RX10 yX10_come wsX10_come) := goodIn_app (goodIn_of _ (by decide +kernel)) ggX10_ofTeam_X10_come
set_option maxRecDepth 20000 in
theorem ggX10_ofTeam_X10_worksAll : GoodIn wsX10_ofTeam wsX10_worksAll := goodIn_r _ [20, 1, 3, 21, 22, 23, 7, 24, 25, 26, 27, 28, 12, 13, 14, 15, 16, 36, 37, 38, 39, 40, 41, 42, 43, 44, 45, 46, 47, 48, 49, 50, 51, 52, 53, 54, 55, 56, 57, 58, 59, 60, 61, 62, 63, 64, 65, 66, 67, 68, 69, 70] (by decide +kernel) (by decide +kernel)
set_option maxRecDepth 20000 in
theorem gX10_ofTeam_X10_worksAll : GoodIn wsX10_ofTeam (wsV RX10 149 RX10 yX10_worksAll wsX10_worksAll) := goodIn_app (goodIn_of _ (by decide +kernel)) ggX10_ofTeam_X10_worksAll
set_option maxRecDepth 20000 in
theorem ggX10_ofTeam_X10_in : GoodIn wsX10_ofTeam wsX10_in := goodIn_r _ [31] (by decide +kernel) (by decide +kernel)
set_option maxRecDepth 20000 in
theorem gX10_ofTeam_X10_in : GoodIn wsX10_ofTeam (va_wsS RX10 95 yX10_in wsX10_in) := goodIn_app (goodIn_of _ (by decide +kernel)) ggX10_ofTeam_X10_in
set_option maxRecDepth 20000 in
theorem ggX10_ofTeam_X10_isFor : GoodIn wsX10_ofTeam wsX10_isFor := goodIn_r _ [35, 28, 2, 36, 37, 38, 39, 40, 41, 42, 43, 44, 45, 46, 47, 48, 49, 50, 51, 52, 53, 54, 55, 56, 57, 58, 59, 60, 61, 62, 63, 64, 65, 66, 67, 68, 69, 70] (by decide +kernel) (by decide +kernel)
set_option maxRecDepth 20000 in
theorem gX10_ofTeam_X10_isFor : GoodIn wsX10_ofTeam (wsV RX10 152 RX10 yX10_isFor wsX10_isFor) := goodIn_app (goodIn_of _ (by decide +kernel)) ggX10_ofTeam_X10_isFor
theorem dX10_ofTeam_0 : decode cX10_ofTeam 0 = .ok (.iload_n 1, 1) := by decide +kernel
theorem dX10_ofTeam_1 : decode cX10_ofTeam 1 = .ok (.bipush 7, 2) := by decide +kernel
theorem dX10_ofTeam_3 : decode cX10_ofTeam 3 = .ok (.if_icmp .ne 74, 3) := by decide +kernel
theorem dX10_ofTeam_6 : decode cX10_ofTeam 6 = .ok (.iload 4, 2) := by decide +kernel
theorem dX10_ofTeam_8 : decode cX10_ofTeam 8 = .ok (.ifCond .ge 5, 3) := by decide +kernel
theorem dX10_ofTeam_11 : decode cX10_ofTeam 11 = .ok (.iconst 2, 1) := by decide +kernel
theorem dX10_ofTeam_12 : decode cX10_ofTeam 12 = .ok (.ireturn, 1) := by decide +kernel
theorem dX10_ofTeam_13 : decode cX10_ofTeam 13 = .ok (.aload_n 0, 1) := by decide +kernel
theorem dX10_ofTeam_14 : decode cX10_ofTeam 14 = .ok (.getfield 40, 3) := by decide +kernel
theorem dX10_ofTeam_17 : decode cX10_ofTeam 17 = .ok (.iload_n 2, 1) := by decide +kernel
theorem dX10_ofTeam_18 : decode cX10_ofTeam 18 = .ok (.iload 4, 2) := by decide +kernel
theorem dX10_ofTeam_20 : decode cX10_ofTeam 20 = .ok (.bipush 8, 2) := by decide +kernel
theorem dX10_ofTeam_22 : decode cX10_ofTeam 22 = .ok (.invokestatic 146, 3) := by decide +kernel
theorem dX10_ofTeam_25 : decode cX10_ofTeam 25 = .ok (.iastore, 1) := by decide +kernel
theorem dX10_ofTeam_26 : decode cX10_ofTeam 26 = .ok (.aload_n 0, 1) := by decide +kernel
theorem dX10_ofTeam_27 : decode cX10_ofTeam 27 = .ok (.getfield 43, 3) := by decide +kernel
theorem dX10_ofTeam_30 : decode cX10_ofTeam 30 = .ok (.iload_n 2, 1) := by decide +kernel
theorem dX10_ofTeam_31 : decode cX10_ofTeam 31 = .ok (.iload_n 3, 1) := by decide +kernel
theorem dX10_ofTeam_32 : decode cX10_ofTeam 32 = .ok (.iconst 3, 1) := by decide +kernel
theorem dX10_ofTeam_33 : decode cX10_ofTeam 33 = .ok (.invokestatic 118, 3) := by decide +kernel
theorem dX10_ofTeam_36 : decode cX10_ofTeam 36 = .ok (.iastore, 1) := by decide +kernel
theorem dX10_ofTeam_37 : decode cX10_ofTeam 37 = .ok (.iconst 0, 1) := by decide +kernel
theorem dX10_ofTeam_38 : decode cX10_ofTeam 38 = .ok (.istore 5, 2) := by decide +kernel
theorem dX10_ofTeam_40 : decode cX10_ofTeam 40 = .ok (.iload 5, 2) := by decide +kernel
theorem dX10_ofTeam_42 : decode cX10_ofTeam 42 = .ok (.bipush 8, 2) := by decide +kernel
theorem dX10_ofTeam_44 : decode cX10_ofTeam 44 = .ok (.if_icmp .ge 22, 3) := by decide +kernel
theorem dX10_ofTeam_47 : decode cX10_ofTeam 47 = .ok (.aload_n 0, 1) := by decide +kernel
theorem dX10_ofTeam_48 : decode cX10_ofTeam 48 = .ok (.getfield 46, 3) := by decide +kernel
theorem dX10_ofTeam_51 : decode cX10_ofTeam 51 = .ok (.bipush 8, 2) := by decide +kernel
theorem dX10_ofTeam_53 : decode cX10_ofTeam 53 = .ok (.iload_n 2, 1) := by decide +kernel
theorem dX10_ofTeam_54 : decode cX10_ofTeam 54 = .ok (.imul, 1) := by decide +kernel
theorem dX10_ofTeam_55 : decode cX10_ofTeam 55 = .ok (.iload 5, 2) := by decide +kernel
theorem dX10_ofTeam_57 : decode cX10_ofTeam 57 = .ok (.iadd, 1) := by decide +kernel
theorem dX10_ofTeam_58 : decode cX10_ofTeam 58 = .ok (.iconst (-1), 1) := by decide +kernel
theorem dX10_ofTeam_59 : decode cX10_ofTeam 59 = .ok (.iastore, 1) := by decide +kernel
theorem dX10_ofTeam_60 : decode cX10_ofTeam 60 = .ok (.iinc 5 1, 3) := by decide +kernel
theorem dX10_ofTeam_63 : decode cX10_ofTeam 63 = .ok (.goto (-23), 3) := by decide +kernel
theorem dX10_ofTeam_66 : decode cX10_ofTeam 66 = .ok (.aload_n 0, 1) := by decide +kernel
theorem dX10_ofTeam_67 : decode cX10_ofTeam 67 = .ok (.aload_n 0, 1) := by decide +kernel
theorem dX10_ofTeam_68 : decode cX10_ofTeam 68 = .ok (.getfield 40, 3) := by decide +kernel
theorem dX10_ofTeam_71 : decode cX10_ofTeam 71 = .ok (.iload_n 2, 1) := by decide +kernel
theorem dX10_ofTeam_72 : decode cX10_ofTeam 72 = .ok (.iaload, 1) := by decide +kernel
theorem dX10_ofTeam_73 : decode cX10_ofTeam 73 = .ok (.invokevirtual 129, 3) := by decide +kernel
theorem dX10_ofTeam_76 : decode cX10_ofTeam 76 = .ok (.ireturn, 1) := by decide +kernel
theorem dX10_ofTeam_77 : decode cX10_ofTeam 77 = .ok (.aload_n 0, 1) := by decide +kernel
theorem dX10_ofTeam_78 : decode cX10_ofTeam 78 = .ok (.getfield 40, 3) := by decide +kernel
theorem dX10_ofTeam_81 : decode cX10_ofTeam 81 = .ok (.iload_n 2, 1) := by decide +kernel
theorem dX10_ofTeam_82 : decode cX10_ofTeam 82 = .ok (.iaload, 1) := by decide +kernel
theorem dX10_ofTeam_83 : decode cX10_ofTeam 83 = .ok (.ifCond .ge 5, 3) := by decide +kernel
theorem dX10_ofTeam_86 : decode cX10_ofTeam 86 = .ok (.iconst 1, 1) := by decide +kernel
theorem dX10_ofTeam_87 : decode cX10_ofTeam 87 = .ok (.ireturn, 1) := by decide +kernel
theorem dX10_ofTeam_88 : decode cX10_ofTeam 88 = .ok (.iload_n 1, 1) := by decide +kernel
theorem dX10_ofTeam_89 : decode cX10_ofTeam 89 = .ok (.bipush 10, 2) := by decide +kernel
theorem dX10_ofTeam_91 : decode cX10_ofTeam 91 = .ok (.if_icmp .ne 14, 3) := by decide +kernel
theorem dX10_ofTeam_94 : decode cX10_ofTeam 94 = .ok (.aload_n 0, 1) := by decide +kernel
theorem dX10_ofTeam_95 : decode cX10_ofTeam 95 = .ok (.aload_n 0, 1) := by decide +kernel
theorem dX10_ofTeam_96 : decode cX10_ofTeam 96 = .ok (.getfield 40, 3) := by decide +kernel
theorem dX10_ofTeam_99 : decode cX10_ofTeam 99 = .ok (.iload_n 2, 1) := by decide +kernel
theorem dX10_ofTeam_100 : decode cX10_ofTeam 100 = .ok (.iaload, 1) := by decide +kernel
theorem dX10_ofTeam_101 : decode cX10_ofTeam 101 = .ok (.invokevirtual 129, 3) := by decide +kernel
theorem dX10_ofTeam_104 : decode cX10_ofTeam 104 = .ok (.ireturn, 1) := by decide +kernel
theorem dX10_ofTeam_105 : decode cX10_ofTeam 105 = .ok (.iload_n 1, 1) := by decide +kernel
theorem dX10_ofTeam_106 : decode cX10_ofTeam 106 = .ok (.bipush 11, 2) := by decide +kernel
theorem dX10_ofTeam_108 : decode cX10_ofTeam 108 = .ok (.if_icmp .ne 10, 3) := by decide +kernel
theorem dX10_ofTeam_111 : decode cX10_ofTeam 111 = .ok (.aload_n 0, 1) := by decide +kernel
theorem dX10_ofTeam_112 : decode cX10_ofTeam 112 = .ok (.iload_n 2, 1) := by decide +kernel
theorem dX10_ofTeam_113 : decode cX10_ofTeam 113 = .ok (.iload_n 3, 1) := by decide +kernel
theorem dX10_ofTeam_114 : decode cX10_ofTeam 114 = .ok (.invokevirtual 149, 3) := by decide +kernel
theorem dX10_ofTeam_117 : decode cX10_ofTeam 117 = .ok (.ireturn, 1) := by decide +kernel
theorem dX10_ofTeam_118 : decode cX10_ofTeam 118 = .ok (.iload_n 3, 1) := by decide +kernel
theorem dX10_ofTeam_119 : decode cX10_ofTeam 119 = .ok (.iconst 0, 1) := by decide +kernel
theorem dX10_ofTeam_120 : decode cX10_ofTeam 120 = .ok (.aload_n 0, 1) := by decide +kernel
theorem dX10_ofTeam_121 : decode cX10_ofTeam 121 = .ok (.getfield 40, 3) := by decide +kernel
theorem dX10_ofTeam_124 : decode cX10_ofTeam 124 = .ok (.iload_n 2, 1) := by decide +kernel
theorem dX10_ofTeam_125 : decode cX10_ofTeam 125 = .ok (.iaload, 1) := by decide +kernel
theorem dX10_ofTeam_126 : decode cX10_ofTeam 126 = .ok (.iconst 1, 1) := by decide +kernel
theorem dX10_ofTeam_127 : decode cX10_ofTeam 127 = .ok (.isub, 1) := by decide +kernel
theorem dX10_ofTeam_128 : decode cX10_ofTeam 128 = .ok (.invokestatic 95, 3) := by decide +kernel
theorem dX10_ofTeam_131 : decode cX10_ofTeam 131 = .ok (.ifCond .ne 5, 3) := by decide +kernel
theorem dX10_ofTeam_134 : decode cX10_ofTeam 134 = .ok (.iconst 5, 1) := by decide +kernel
theorem dX10_ofTeam_135 : decode cX10_ofTeam 135 = .ok (.ireturn, 1) := by decide +kernel
theorem dX10_ofTeam_136 : decode cX10_ofTeam 136 = .ok (.iload 4, 2) := by decide +kernel
theorem dX10_ofTeam_138 : decode cX10_ofTeam 138 = .ok (.bipush 10, 2) := by decide +kernel
theorem dX10_ofTeam_140 : decode cX10_ofTeam 140 = .ok (.invokestatic 118, 3) := by decide +kernel
theorem dX10_ofTeam_143 : decode cX10_ofTeam 143 = .ok (.istore 5, 2) := by decide +kernel
theorem dX10_ofTeam_145 : decode cX10_ofTeam 145 = .ok (.iload_n 1, 1) := by decide +kernel
theorem dX10_ofTeam_146 : decode cX10_ofTeam 146 = .ok (.bipush 9, 2) := by decide +kernel
theorem dX10_ofTeam_148 : decode cX10_ofTeam 148 = .ok (.if_icmp .ne 41, 3) := by decide +kernel
theorem dX10_ofTeam_151 : decode cX10_ofTeam 151 = .ok (.aload_n 0, 1) := by decide +kernel
theorem dX10_ofTeam_152 : decode cX10_ofTeam 152 = .ok (.getfield 34, 3) := by decide +kernel
theorem dX10_ofTeam_155 : decode cX10_ofTeam 155 = .ok (.iload 5, 2) := by decide +kernel
theorem dX10_ofTeam_157 : decode cX10_ofTeam 157 = .ok (.aload_n 0, 1) := by decide +kernel
theorem dX10_ofTeam_158 : decode cX10_ofTeam 158 = .ok (.getfield 46, 3) := by decide +kernel
theorem dX10_ofTeam_161 : decode cX10_ofTeam 161 = .ok (.bipush 8, 2) := by decide +kernel
theorem dX10_ofTeam_163 : decode cX10_ofTeam 163 = .ok (.iload_n 2, 1) := by decide +kernel
theorem dX10_ofTeam_164 : decode cX10_ofTeam 164 = .ok (.imul, 1) := by decide +kernel
theorem dX10_ofTeam_165 : decode cX10_ofTeam 165 = .ok (.iload_n 3, 1) := by decide +kernel
theorem dX10_ofTeam_166 : decode cX10_ofTeam 166 = .ok (.iadd, 1) := by decide +kernel
theorem dX10_ofTeam_167 : decode cX10_ofTeam 167 = .ok (.iaload, 1) := by decide +kernel
theorem dX10_ofTeam_168 : decode cX10_ofTeam 168 = .ok (.iastore, 1) := by decide +kernel
theorem dX10_ofTeam_169 : decode cX10_ofTeam 169 = .ok (.aload_n 0, 1) := by decide +kernel
theorem dX10_ofTeam_170 : decode cX10_ofTeam 170 = .ok (.aload_n 0, 1) := by decide +kernel
theorem dX10_ofTeam_171 : decode cX10_ofTeam 171 = .ok (.getfield 34, 3) := by decide +kernel
theorem dX10_ofTeam_174 : decode cX10_ofTeam 174 = .ok (.iload 5, 2) := by decide +kernel
theorem dX10_ofTeam_176 : decode cX10_ofTeam 176 = .ok (.iaload, 1) := by decide +kernel
theorem dX10_ofTeam_177 : decode cX10_ofTeam 177 = .ok (.ifCond .lt 7, 3) := by decide +kernel
theorem dX10_ofTeam_180 : decode cX10_ofTeam 180 = .ok (.iconst 1, 1) := by decide +kernel
theorem dX10_ofTeam_181 : decode cX10_ofTeam 181 = .ok (.goto 4, 3) := by decide +kernel
theorem dX10_ofTeam_184 : decode cX10_ofTeam 184 = .ok (.iconst 0, 1) := by decide +kernel
theorem dX10_ofTeam_185 : decode cX10_ofTeam 185 = .ok (.invokevirtual 129, 3) := by decide +kernel
theorem dX10_ofTeam_188 : decode cX10_ofTeam 188 = .ok (.ireturn, 1) := by decide +kernel
theorem dX10_ofTeam_189 : decode cX10_ofTeam 189 = .ok (.aload_n 0, 1) := by decide +kernel
theorem dX10_ofTeam_190 : decode cX10_ofTeam 190 = .ok (.iload_n 2, 1) := by decide +kernel
theorem dX10_ofTeam_191 : decode cX10_ofTeam 191 = .ok (.aload_n 0, 1) := by decide +kernel
theorem dX10_ofTeam_192 : decode cX10_ofTeam 192 = .ok (.getfield 34, 3) := by decide +kernel
theorem dX10_ofTeam_195 : decode cX10_ofTeam 195 = .ok (.iload 5, 2) := by decide +kernel
theorem dX10_ofTeam_197 : decode cX10_ofTeam 197 = .ok (.iaload, 1) := by decide +kernel
theorem dX10_ofTeam_198 : decode cX10_ofTeam 198 = .ok (.invokevirtual 152, 3) := by decide +kernel
theorem dX10_ofTeam_201 : decode cX10_ofTeam 201 = .ok (.ifCond .ne 5, 3) := by decide +kernel
theorem dX10_ofTeam_204 : decode cX10_ofTeam 204 = .ok (.iconst 4, 1) := by decide +kernel
theorem dX10_ofTeam_205 : decode cX10_ofTeam 205 = .ok (.ireturn, 1) := by decide +kernel
theorem dX10_ofTeam_206 : decode cX10_ofTeam 206 = .ok (.aload_n 0, 1) := by decide +kernel
theorem dX10_ofTeam_207 : decode cX10_ofTeam 207 = .ok (.getfield 46, 3) := by decide +kernel
theorem dX10_ofTeam_210 : decode cX10_ofTeam 210 = .ok (.bipush 8, 2) := by decide +kernel
theorem dX10_ofTeam_212 : decode cX10_ofTeam 212 = .ok (.iload_n 2, 1) := by decide +kernel
theorem dX10_ofTeam_213 : decode cX10_ofTeam 213 = .ok (.imul, 1) := by decide +kernel
theorem dX10_ofTeam_214 : decode cX10_ofTeam 214 = .ok (.iload_n 3, 1) := by decide +kernel
theorem dX10_ofTeam_215 : decode cX10_ofTeam 215 = .ok (.iadd, 1) := by decide +kernel
theorem dX10_ofTeam_216 : decode cX10_ofTeam 216 = .ok (.aload_n 0, 1) := by decide +kernel
theorem dX10_ofTeam_217 : decode cX10_ofTeam 217 = .ok (.getfield 34, 3) := by decide +kernel
theorem dX10_ofTeam_220 : decode cX10_ofTeam 220 = .ok (.iload 5, 2) := by decide +kernel
theorem dX10_ofTeam_222 : decode cX10_ofTeam 222 = .ok (.iaload, 1) := by decide +kernel
theorem dX10_ofTeam_223 : decode cX10_ofTeam 223 = .ok (.iastore, 1) := by decide +kernel
theorem dX10_ofTeam_224 : decode cX10_ofTeam 224 = .ok (.aload_n 0, 1) := by decide +kernel
theorem dX10_ofTeam_225 : decode cX10_ofTeam 225 = .ok (.iconst 1, 1) := by decide +kernel
theorem dX10_ofTeam_226 : decode cX10_ofTeam 226 = .ok (.invokevirtual 129, 3) := by decide +kernel
theorem dX10_ofTeam_229 : decode cX10_ofTeam 229 = .ok (.ireturn, 1) := by decide +kernel
set_option maxRecDepth 20000 in
theorem ggX10_worksAll_X10_work : GoodIn wsX10_worksAll wsX10_work := goodIn_r _ [7, 8, 9, 10, 11, 17, 18, 19, 20, 21, 22, 23, 24, 25, 26, 27, 28, 29, 30, 31, 32, 33, 34, 35, 36, 37, 38, 39, 40, 41, 42, 43, 44, 45, 46, 47, 48, 49, 50, 51] (by decide +kernel) (by decide +kernel)
set_option maxRecDepth 20000 in
theorem gX10_worksAll_X10_work : GoodIn wsX10_worksAll (wsV RX10 126 RX10 yX10_work wsX10_work) := goodIn_app (goodIn_of _ (by decide +kernel)) ggX10_worksAll_X10_work
set_option maxRecDepth 20000 in
theorem ggX10_worksAll_X10_come : GoodIn wsX10_worksAll wsX10_come := goodIn_r _ [15, 16, 17, 18, 19, 20, 21, 22, 23, 24, 25, 26, 27, 28, 29, 30, 31, 32, 33, 34, 35, 36, 37, 38, 39, 40, 41, 42, 43, 44, 45, 46, 47, 48, 49, 50, 51] (by decide +kernel) (by decide +kernel)
set_option maxRecDepth 20000 in
theorem gX10_worksAll_X10_come : GoodIn wsX10_worksAll (wsV RX10 129 RX10 yX10_come wsX10_come) := goodIn_app (goodIn_of _ (by decide +kernel)) ggX10_worksAll_X10_come
theorem dX10_worksAll_0 : decode cX10_worksAll 0 = .ok (.iconst 0, 1) := by decide +kernel
theorem dX10_worksAll_1 : decode cX10_worksAll 1 = .ok (.istore_n 3, 1) := by decide +kernel
theorem dX10_worksAll_2 : decode cX10_worksAll 2 = .ok (.iconst 0, 1) := by decide +kernel
theorem dX10_worksAll_3 : decode cX10_worksAll 3 = .ok (.istore 4, 2) := by decide +kernel
theorem dX10_worksAll_5 : decode cX10_worksAll 5 = .ok (.iload 4, 2) := by decide +kernel
theorem dX10_worksAll_7 : decode cX10_worksAll 7 = .ok (.aload_n 0, 1) := by decide +kernel
theorem dX10_worksAll_8 : decode cX10_worksAll 8 = .ok (.getfield 40, 3) := by decide +kernel
theorem dX10_worksAll_11 : decode cX10_worksAll 11 = .ok (.iload_n 1, 1) := by decide +kernel
theorem dX10_worksAll_12 : decode cX10_worksAll 12 = .ok (.iaload, 1) := by decide +kernel
theorem dX10_worksAll_13 : decode cX10_worksAll 13 = .ok (.if_icmp .ge 38, 3) := by decide +kernel
theorem dX10_worksAll_16 : decode cX10_worksAll 16 = .ok (.aload_n 0, 1) := by decide +kernel
theorem dX10_worksAll_17 : decode cX10_worksAll 17 = .ok (.getfield 46, 3) := by decide +kernel
theorem dX10_worksAll_20 : decode cX10_worksAll 20 = .ok (.bipush 8, 2) := by decide +kernel
theorem dX10_worksAll_22 : decode cX10_worksAll 22 = .ok (.iload_n 1, 1) := by decide +kernel
theorem dX10_worksAll_23 : decode cX10_worksAll 23 = .ok (.imul, 1) := by decide +kernel
theorem dX10_worksAll_24 : decode cX10_worksAll 24 = .ok (.iload 4, 2) := by decide +kernel
theorem dX10_worksAll_26 : decode cX10_worksAll 26 = .ok (.iadd, 1) := by decide +kernel
theorem dX10_worksAll_27 : decode cX10_worksAll 27 = .ok (.iaload, 1) := by decide +kernel
theorem dX10_worksAll_28 : decode cX10_worksAll 28 = .ok (.istore 5, 2) := by decide +kernel
theorem dX10_worksAll_30 : decode cX10_worksAll 30 = .ok (.iload 5, 2) := by decide +kernel
theorem dX10_worksAll_32 : decode cX10_worksAll 32 = .ok (.ifCond .ge 5, 3) := by decide +kernel
theorem dX10_worksAll_35 : decode cX10_worksAll 35 = .ok (.iconst 1, 1) := by decide +kernel
theorem dX10_worksAll_36 : decode cX10_worksAll 36 = .ok (.ireturn, 1) := by decide +kernel
theorem dX10_worksAll_37 : decode cX10_worksAll 37 = .ok (.aload_n 0, 1) := by decide +kernel
theorem dX10_worksAll_38 : decode cX10_worksAll 38 = .ok (.iload 5, 2) := by decide +kernel
theorem dX10_worksAll_40 : decode cX10_worksAll 40 = .ok (.iload_n 2, 1) := by decide +kernel
theorem dX10_worksAll_41 : decode cX10_worksAll 41 = .ok (.invokevirtual 126, 3) := by decide +kernel
theorem dX10_worksAll_44 : decode cX10_worksAll 44 = .ok (.istore_n 3, 1) := by decide +kernel
theorem dX10_worksAll_45 : decode cX10_worksAll 45 = .ok (.iinc 4 1, 3) := by decide +kernel
theorem dX10_worksAll_48 : decode cX10_worksAll 48 = .ok (.goto (-43), 3) := by decide +kernel
theorem dX10_worksAll_51 : decode cX10_worksAll 51 = .ok (.aload_n 0, 1) := by decide +kernel
theorem dX10_worksAll_52 : decode cX10_worksAll 52 = .ok (.iload_n 3, 1) := by decide +kernel
theorem dX10_worksAll_53 : decode cX10_worksAll 53 = .ok (.invokevirtual 129, 3) := by decide +kernel
theorem dX10_worksAll_56 : decode cX10_worksAll 56 = .ok (.ireturn, 1) := by decide +kernel
set_option maxRecDepth 20000 in
theorem ggX10_ofLedger_X10_least : GoodIn wsX10_ofLedger wsX10_least := goodIn_r _ [6] (by decide +kernel) (by decide +kernel)
set_option maxRecDepth 20000 in
theorem gX10_ofLedger_X10_least : GoodIn wsX10_ofLedger (va_wsS RX10 146 yX10_least wsX10_least) := goodIn_app (goodIn_of _ (by decide +kernel)) ggX10_ofLedger_X10_least
set_option maxRecDepth 20000 in
theorem ggX10_ofLedger_X10_come : GoodIn wsX10_ofLedger wsX10_come := goodIn_r _ [10, 11, 15, 16, 17, 18, 19, 20, 21, 22, 23, 24, 25, 26, 27, 28, 29, 30, 31, 32, 33, 34, 35, 36, 37, 38, 39, 40, 41, 42, 43, 44, 45, 46, 47, 48, 49] (by decide +kernel) (by decide +kernel)
set_option maxRecDepth 20000 in
theorem gX10_ofLedger_X10_come : GoodIn wsX10_ofLedger (wsV RX10 129 RX10 yX10_come wsX10_come) := goodIn_app (goodIn_of _ (by decide +kernel)) ggX10_ofLedger_X10_come
set_option maxRecDepth 20000 in
theorem ggX10_ofLedger_X10_in : GoodIn wsX10_ofLedger wsX10_in := goodIn_r _ [14] (by decide +kernel) (by decide +kernel)
set_option maxRecDepth 20000 in
theorem gX10_ofLedger_X10_in : GoodIn wsX10_ofLedger (va_wsS RX10 95 yX10_in wsX10_in) := goodIn_app (goodIn_of _ (by decide +kernel)) ggX10_ofLedger_X10_in
theorem dX10_ofLedger_0 : decode cX10_ofLedger 0 = .ok (.iload_n 1, 1) := by decide +kernel
theorem dX10_ofLedger_1 : decode cX10_ofLedger 1 = .ok (.bipush 12, 2) := by decide +kernel
theorem dX10_ofLedger_3 : decode cX10_ofLedger 3 = .ok (.if_icmp .ne 61, 3) := by decide +kernel
theorem dX10_ofLedger_6 : decode cX10_ofLedger 6 = .ok (.iload_n 3, 1) := by decide +kernel
theorem dX10_ofLedger_7 : decode cX10_ofLedger 7 = .ok (.ifCond .ge 5, 3) := by decide +kernel
theorem dX10_ofLedger_10 : decode cX10_ofLedger 10 = .ok (.iconst 2, 1) := by decide +kernel
theorem dX10_ofLedger_11 : decode cX10_ofLedger 11 = .ok (.ireturn, 1) := by decide +kernel
theorem dX10_ofLedger_12 : decode cX10_ofLedger 12 = .ok (.aload_n 0, 1) := by decide +kernel
theorem dX10_ofLedger_13 : decode cX10_ofLedger 13 = .ok (.getfield 49, 3) := by decide +kernel
theorem dX10_ofLedger_16 : decode cX10_ofLedger 16 = .ok (.iload_n 2, 1) := by decide +kernel
theorem dX10_ofLedger_17 : decode cX10_ofLedger 17 = .ok (.iload_n 3, 1) := by decide +kernel
theorem dX10_ofLedger_18 : decode cX10_ofLedger 18 = .ok (.bipush 12, 2) := by decide +kernel
theorem dX10_ofLedger_20 : decode cX10_ofLedger 20 = .ok (.invokestatic 146, 3) := by decide +kernel
theorem dX10_ofLedger_23 : decode cX10_ofLedger 23 = .ok (.iastore, 1) := by decide +kernel
theorem dX10_ofLedger_24 : decode cX10_ofLedger 24 = .ok (.iconst 0, 1) := by decide +kernel
theorem dX10_ofLedger_25 : decode cX10_ofLedger 25 = .ok (.istore 5, 2) := by decide +kernel
theorem dX10_ofLedger_27 : decode cX10_ofLedger 27 = .ok (.iload 5, 2) := by decide +kernel
theorem dX10_ofLedger_29 : decode cX10_ofLedger 29 = .ok (.bipush 12, 2) := by decide +kernel
theorem dX10_ofLedger_31 : decode cX10_ofLedger 31 = .ok (.if_icmp .ge 22, 3) := by decide +kernel
theorem dX10_ofLedger_34 : decode cX10_ofLedger 34 = .ok (.aload_n 0, 1) := by decide +kernel
theorem dX10_ofLedger_35 : decode cX10_ofLedger 35 = .ok (.getfield 52, 3) := by decide +kernel
theorem dX10_ofLedger_38 : decode cX10_ofLedger 38 = .ok (.bipush 12, 2) := by decide +kernel
theorem dX10_ofLedger_40 : decode cX10_ofLedger 40 = .ok (.iload_n 2, 1) := by decide +kernel
theorem dX10_ofLedger_41 : decode cX10_ofLedger 41 = .ok (.imul, 1) := by decide +kernel
theorem dX10_ofLedger_42 : decode cX10_ofLedger 42 = .ok (.iload 5, 2) := by decide +kernel
theorem dX10_ofLedger_44 : decode cX10_ofLedger 44 = .ok (.iadd, 1) := by decide +kernel
theorem dX10_ofLedger_45 : decode cX10_ofLedger 45 = .ok (.iconst 0, 1) := by decide +kernel
theorem dX10_ofLedger_46 : decode cX10_ofLedger 46 = .ok (.iastore, 1) := by decide +kernel
theorem dX10_ofLedger_47 : decode cX10_ofLedger 47 = .ok (.iinc 5 1, 3) := by decide +kernel
theorem dX10_ofLedger_50 : decode cX10_ofLedger 50 = .ok (.goto (-23), 3) := by decide +kernel
theorem dX10_ofLedger_53 : decode cX10_ofLedger 53 = .ok (.aload_n 0, 1) := by decide +kernel
theorem dX10_ofLedger_54 : decode cX10_ofLedger 54 = .ok (.aload_n 0, 1) := by decide +kernel
theorem dX10_ofLedger_55 : decode cX10_ofLedger 55 = .ok (.getfield 49, 3) := by decide +kernel
theorem dX10_ofLedger_58 : decode cX10_ofLedger 58 = .ok (.iload_n 2, 1) := by decide +kernel
theorem dX10_ofLedger_59 : decode cX10_ofLedger 59 = .ok (.iaload, 1) := by decide +kernel
theorem dX10_ofLedger_60 : decode cX10_ofLedger 60 = .ok (.invokevirtual 129, 3) := by decide +kernel
theorem dX10_ofLedger_63 : decode cX10_ofLedger 63 = .ok (.ireturn, 1) := by decide +kernel
theorem dX10_ofLedger_64 : decode cX10_ofLedger 64 = .ok (.aload_n 0, 1) := by decide +kernel
theorem dX10_ofLedger_65 : decode cX10_ofLedger 65 = .ok (.getfield 49, 3) := by decide +kernel
theorem dX10_ofLedger_68 : decode cX10_ofLedger 68 = .ok (.iload_n 2, 1) := by decide +kernel
theorem dX10_ofLedger_69 : decode cX10_ofLedger 69 = .ok (.iaload, 1) := by decide +kernel
theorem dX10_ofLedger_70 : decode cX10_ofLedger 70 = .ok (.ifCond .ge 5, 3) := by decide +kernel
theorem dX10_ofLedger_73 : decode cX10_ofLedger 73 = .ok (.iconst 1, 1) := by decide +kernel
theorem dX10_ofLedger_74 : decode cX10_ofLedger 74 = .ok (.ireturn, 1) := by decide +kernel
theorem dX10_ofLedger_75 : decode cX10_ofLedger 75 = .ok (.iload_n 1, 1) := by decide +kernel
theorem dX10_ofLedger_76 : decode cX10_ofLedger 76 = .ok (.bipush 13, 2) := by decide +kernel
theorem dX10_ofLedger_78 : decode cX10_ofLedger 78 = .ok (.if_icmp .ne 53, 3) := by decide +kernel
theorem dX10_ofLedger_81 : decode cX10_ofLedger 81 = .ok (.iload_n 3, 1) := by decide +kernel
theorem dX10_ofLedger_82 : decode cX10_ofLedger 82 = .ok (.iconst 0, 1) := by decide +kernel
theorem dX10_ofLedger_83 : decode cX10_ofLedger 83 = .ok (.aload_n 0, 1) := by decide +kernel
theorem dX10_ofLedger_84 : decode cX10_ofLedger 84 = .ok (.getfield 49, 3) := by decide +kernel
theorem dX10_ofLedger_87 : decode cX10_ofLedger 87 = .ok (.iload_n 2, 1) := by decide +kernel
theorem dX10_ofLedger_88 : decode cX10_ofLedger 88 = .ok (.iaload, 1) := by decide +kernel
theorem dX10_ofLedger_89 : decode cX10_ofLedger 89 = .ok (.iconst 1, 1) := by decide +kernel
theorem dX10_ofLedger_90 : decode cX10_ofLedger 90 = .ok (.isub, 1) := by decide +kernel
theorem dX10_ofLedger_91 : decode cX10_ofLedger 91 = .ok (.invokestatic 95, 3) := by decide +kernel
theorem dX10_ofLedger_94 : decode cX10_ofLedger 94 = .ok (.ifCond .ne 5, 3) := by decide +kernel
theorem dX10_ofLedger_97 : decode cX10_ofLedger 97 = .ok (.iconst 5, 1) := by decide +kernel
theorem dX10_ofLedger_98 : decode cX10_ofLedger 98 = .ok (.ireturn, 1) := by decide +kernel
theorem dX10_ofLedger_99 : decode cX10_ofLedger 99 = .ok (.aload_n 0, 1) := by decide +kernel
theorem dX10_ofLedger_100 : decode cX10_ofLedger 100 = .ok (.getfield 52, 3) := by decide +kernel
theorem dX10_ofLedger_103 : decode cX10_ofLedger 103 = .ok (.bipush 12, 2) := by decide +kernel
theorem dX10_ofLedger_105 : decode cX10_ofLedger 105 = .ok (.iload_n 2, 1) := by decide +kernel
theorem dX10_ofLedger_106 : decode cX10_ofLedger 106 = .ok (.imul, 1) := by decide +kernel
theorem dX10_ofLedger_107 : decode cX10_ofLedger 107 = .ok (.iload_n 3, 1) := by decide +kernel
theorem dX10_ofLedger_108 : decode cX10_ofLedger 108 = .ok (.iadd, 1) := by decide +kernel
theorem dX10_ofLedger_109 : decode cX10_ofLedger 109 = .ok (.dup2, 1) := by decide +kernel
theorem dX10_ofLedger_110 : decode cX10_ofLedger 110 = .ok (.iaload, 1) := by decide +kernel
theorem dX10_ofLedger_111 : decode cX10_ofLedger 111 = .ok (.iload 4, 2) := by decide +kernel
theorem dX10_ofLedger_113 : decode cX10_ofLedger 113 = .ok (.iadd, 1) := by decide +kernel
theorem dX10_ofLedger_114 : decode cX10_ofLedger 114 = .ok (.iastore, 1) := by decide +kernel
theorem dX10_ofLedger_115 : decode cX10_ofLedger 115 = .ok (.aload_n 0, 1) := by decide +kernel
theorem dX10_ofLedger_116 : decode cX10_ofLedger 116 = .ok (.aload_n 0, 1) := by decide +kernel
theorem dX10_ofLedger_117 : decode cX10_ofLedger 117 = .ok (.getfield 52, 3) := by decide +kernel
theorem dX10_ofLedger_120 : decode cX10_ofLedger 120 = .ok (.bipush 12, 2) := by decide +kernel
theorem dX10_ofLedger_122 : decode cX10_ofLedger 122 = .ok (.iload_n 2, 1) := by decide +kernel
theorem dX10_ofLedger_123 : decode cX10_ofLedger 123 = .ok (.imul, 1) := by decide +kernel
theorem dX10_ofLedger_124 : decode cX10_ofLedger 124 = .ok (.iload_n 3, 1) := by decide +kernel
theorem dX10_ofLedger_125 : decode cX10_ofLedger 125 = .ok (.iadd, 1) := by decide +kernel
theorem dX10_ofLedger_126 : decode cX10_ofLedger 126 = .ok (.iaload, 1) := by decide +kernel
theorem dX10_ofLedger_127 : decode cX10_ofLedger 127 = .ok (.invokevirtual 129, 3) := by decide +kernel
theorem dX10_ofLedger_130 : decode cX10_ofLedger 130 = .ok (.ireturn, 1) := by decide +kernel
theorem dX10_ofLedger_131 : decode cX10_ofLedger 131 = .ok (.iconst 0, 1) := by decide +kernel
theorem dX10_ofLedger_132 : decode cX10_ofLedger 132 = .ok (.istore 5, 2) := by decide +kernel
theorem dX10_ofLedger_134 : decode cX10_ofLedger 134 = .ok (.iconst 0, 1) := by decide +kernel
theorem dX10_ofLedger_135 : decode cX10_ofLedger 135 = .ok (.istore 6, 2) := by decide +kernel
theorem dX10_ofLedger_137 : decode cX10_ofLedger 137 = .ok (.iload 6, 2) := by decide +kernel
theorem dX10_ofLedger_139 : decode cX10_ofLedger 139 = .ok (.aload_n 0, 1) := by decide +kernel
theorem dX10_ofLedger_140 : decode cX10_ofLedger 140 = .ok (.getfield 49, 3) := by decide +kernel
theorem dX10_ofLedger_143 : decode cX10_ofLedger 143 = .ok (.iload_n 2, 1) := by decide +kernel
theorem dX10_ofLedger_144 : decode cX10_ofLedger 144 = .ok (.iaload, 1) := by decide +kernel
theorem dX10_ofLedger_145 : decode cX10_ofLedger 145 = .ok (.if_icmp .ge 26, 3) := by decide +kernel
theorem dX10_ofLedger_148 : decode cX10_ofLedger 148 = .ok (.iload 5, 2) := by decide +kernel
theorem dX10_ofLedger_150 : decode cX10_ofLedger 150 = .ok (.aload_n 0, 1) := by decide +kernel
theorem dX10_ofLedger_151 : decode cX10_ofLedger 151 = .ok (.getfield 52, 3) := by decide +kernel
theorem dX10_ofLedger_154 : decode cX10_ofLedger 154 = .ok (.bipush 12, 2) := by decide +kernel
theorem dX10_ofLedger_156 : decode cX10_ofLedger 156 = .ok (.iload_n 2, 1) := by decide +kernel
theorem dX10_ofLedger_157 : decode cX10_ofLedger 157 = .ok (.imul, 1) := by decide +kernel
theorem dX10_ofLedger_158 : decode cX10_ofLedger 158 = .ok (.iload 6, 2) := by decide +kernel
theorem dX10_ofLedger_160 : decode cX10_ofLedger 160 = .ok (.iadd, 1) := by decide +kernel
theorem dX10_ofLedger_161 : decode cX10_ofLedger 161 = .ok (.iaload, 1) := by decide +kernel
theorem dX10_ofLedger_162 : decode cX10_ofLedger 162 = .ok (.iadd, 1) := by decide +kernel
theorem dX10_ofLedger_163 : decode cX10_ofLedger 163 = .ok (.istore 5, 2) := by decide +kernel
theorem dX10_ofLedger_165 : decode cX10_ofLedger 165 = .ok (.iinc 6 1, 3) := by decide +kernel
theorem dX10_ofLedger_168 : decode cX10_ofLedger 168 = .ok (.goto (-31), 3) := by decide +kernel
theorem dX10_ofLedger_171 : decode cX10_ofLedger 171 = .ok (.aload_n 0, 1) := by decide +kernel
theorem dX10_ofLedger_172 : decode cX10_ofLedger 172 = .ok (.iload 5, 2) := by decide +kernel
theorem dX10_ofLedger_174 : decode cX10_ofLedger 174 = .ok (.invokevirtual 129, 3) := by decide +kernel
theorem dX10_ofLedger_177 : decode cX10_ofLedger 177 = .ok (.ireturn, 1) := by decide +kernel
set_option maxRecDepth 20000 in
theorem ggX10_ofTable_X10_least : GoodIn wsX10_ofTable wsX10_least := goodIn_r _ [8] (by decide +kernel) (by decide +kernel)
set_option maxRecDepth 20000 in
theorem gX10_ofTable_X10_least : GoodIn wsX10_ofTable (va_wsS RX10 146 yX10_least wsX10_least) := goodIn_app (goodIn_of _ (by decide +kernel)) ggX10_ofTable_X10_least
set_option maxRecDepth 20000 in
theorem ggX10_ofTable_X10_come : GoodIn wsX10_ofTable wsX10_come := goodIn_r _ [12, 13, 17, 18, 19, 20, 21, 22, 23, 24, 25, 26, 27, 28, 29, 30, 31, 32, 33, 34, 35, 36, 37, 38, 39, 40, 41, 42, 43, 44, 45, 46, 47, 48, 49, 50, 51] (by decide +kernel) (by decide +kernel)
set_option maxRecDepth 20000 in
theorem gX10_ofTable_X10_come : GoodIn wsX10_ofTable (wsV RX10 129 RX10 yX10_come wsX10_come) := goodIn_app (goodIn_of _ (by decide +kernel)) ggX10_ofTable_X10_come
set_option maxRecDepth 20000 in
theorem ggX10_ofTable_X10_in : GoodIn wsX10_ofTable wsX10_in := goodIn_r _ [16] (by decide +kernel) (by decide +kernel)
set_option maxRecDepth 20000 in
theorem gX10_ofTable_X10_in : GoodIn wsX10_ofTable (va_wsS RX10 95 yX10_in wsX10_in) := goodIn_app (goodIn_of _ (by decide +kernel)) ggX10_ofTable_X10_in
theorem dX10_ofTable_0 : decode cX10_ofTable 0 = .ok (.iload_n 1, 1) := by decide +kernel
theorem dX10_ofTable_1 : decode cX10_ofTable 1 = .ok (.bipush 15, 2) := by decide +kernel
theorem dX10_ofTable_3 : decode cX10_ofTable 3 = .ok (.if_icmp .ne 103, 3) := by decide +kernel
theorem dX10_ofTable_6 : decode cX10_ofTable 6 = .ok (.iload_n 3, 1) := by decide +kernel
theorem dX10_ofTable_7 : decode cX10_ofTable 7 = .ok (.ifCond .lt 8, 3) := by decide +kernel
theorem dX10_ofTable_10 : decode cX10_ofTable 10 = .ok (.iload 4, 2) := by decide +kernel
theorem dX10_ofTable_12 : decode cX10_ofTable 12 = .ok (.ifCond .ge 5, 3) := by decide +kernel
theorem dX10_ofTable_15 : decode cX10_ofTable 15 = .ok (.iconst 2, 1) := by decide +kernel
theorem dX10_ofTable_16 : decode cX10_ofTable 16 = .ok (.ireturn, 1) := by decide +kernel
theorem dX10_ofTable_17 : decode cX10_ofTable 17 = .ok (.aload_n 0, 1) := by decide +kernel
theorem dX10_ofTable_18 : decode cX10_ofTable 18 = .ok (.getfield 55, 3) := by decide +kernel
theorem dX10_ofTable_21 : decode cX10_ofTable 21 = .ok (.iload_n 2, 1) := by decide +kernel
theorem dX10_ofTable_22 : decode cX10_ofTable 22 = .ok (.iload_n 3, 1) := by decide +kernel
theorem dX10_ofTable_23 : decode cX10_ofTable 23 = .ok (.bipush 6, 2) := by decide +kernel
theorem dX10_ofTable_25 : decode cX10_ofTable 25 = .ok (.invokestatic 146, 3) := by decide +kernel
theorem dX10_ofTable_28 : decode cX10_ofTable 28 = .ok (.iastore, 1) := by decide +kernel
theorem dX10_ofTable_29 : decode cX10_ofTable 29 = .ok (.aload_n 0, 1) := by decide +kernel
theorem dX10_ofTable_30 : decode cX10_ofTable 30 = .ok (.getfield 58, 3) := by decide +kernel
theorem dX10_ofTable_33 : decode cX10_ofTable 33 = .ok (.iload_n 2, 1) := by decide +kernel
theorem dX10_ofTable_34 : decode cX10_ofTable 34 = .ok (.iload 4, 2) := by decide +kernel
theorem dX10_ofTable_36 : decode cX10_ofTable 36 = .ok (.bipush 6, 2) := by decide +kernel
theorem dX10_ofTable_38 : decode cX10_ofTable 38 = .ok (.invokestatic 146, 3) := by decide +kernel
theorem dX10_ofTable_41 : decode cX10_ofTable 41 = .ok (.iastore, 1) := by decide +kernel
theorem dX10_ofTable_42 : decode cX10_ofTable 42 = .ok (.iconst 0, 1) := by decide +kernel
theorem dX10_ofTable_43 : decode cX10_ofTable 43 = .ok (.istore 5, 2) := by decide +kernel
theorem dX10_ofTable_45 : decode cX10_ofTable 45 = .ok (.iload 5, 2) := by decide +kernel
theorem dX10_ofTable_47 : decode cX10_ofTable 47 = .ok (.bipush 6, 2) := by decide +kernel
theorem dX10_ofTable_49 : decode cX10_ofTable 49 = .ok (.if_icmp .ge 22, 3) := by decide +kernel
theorem dX10_ofTable_52 : decode cX10_ofTable 52 = .ok (.aload_n 0, 1) := by decide +kernel
theorem dX10_ofTable_53 : decode cX10_ofTable 53 = .ok (.getfield 61, 3) := by decide +kernel
theorem dX10_ofTable_56 : decode cX10_ofTable 56 = .ok (.bipush 6, 2) := by decide +kernel
theorem dX10_ofTable_58 : decode cX10_ofTable 58 = .ok (.iload_n 2, 1) := by decide +kernel
theorem dX10_ofTable_59 : decode cX10_ofTable 59 = .ok (.imul, 1) := by decide +kernel
theorem dX10_ofTable_60 : decode cX10_ofTable 60 = .ok (.iload 5, 2) := by decide +kernel
theorem dX10_ofTable_62 : decode cX10_ofTable 62 = .ok (.iadd, 1) := by decide +kernel
theorem dX10_ofTable_63 : decode cX10_ofTable 63 = .ok (.iconst 1, 1) := by decide +kernel
theorem dX10_ofTable_64 : decode cX10_ofTable 64 = .ok (.bastore, 1) := by decide +kernel
theorem dX10_ofTable_65 : decode cX10_ofTable 65 = .ok (.iinc 5 1, 3) := by decide +kernel
theorem dX10_ofTable_68 : decode cX10_ofTable 68 = .ok (.goto (-23), 3) := by decide +kernel
theorem dX10_ofTable_71 : decode cX10_ofTable 71 = .ok (.iconst 0, 1) := by decide +kernel
theorem dX10_ofTable_72 : decode cX10_ofTable 72 = .ok (.istore 5, 2) := by decide +kernel
theorem dX10_ofTable_74 : decode cX10_ofTable 74 = .ok (.iload 5, 2) := by decide +kernel
theorem dX10_ofTable_76 : decode cX10_ofTable 76 = .ok (.bipush 36, 2) := by decide +kernel
theorem dX10_ofTable_78 : decode cX10_ofTable 78 = .ok (.if_icmp .ge 22, 3) := by decide +kernel
theorem dX10_ofTable_81 : decode cX10_ofTable 81 = .ok (.aload_n 0, 1) := by decide +kernel
theorem dX10_ofTable_82 : decode cX10_ofTable 82 = .ok (.getfield 65, 3) := by decide +kernel
theorem dX10_ofTable_85 : decode cX10_ofTable 85 = .ok (.bipush 36, 2) := by decide +kernel
theorem dX10_ofTable_87 : decode cX10_ofTable 87 = .ok (.iload_n 2, 1) := by decide +kernel
theorem dX10_ofTable_88 : decode cX10_ofTable 88 = .ok (.imul, 1) := by decide +kernel
theorem dX10_ofTable_89 : decode cX10_ofTable 89 = .ok (.iload 5, 2) := by decide +kernel
theorem dX10_ofTable_91 : decode cX10_ofTable 91 = .ok (.iadd, 1) := by decide +kernel
theorem dX10_ofTable_92 : decode cX10_ofTable 92 = .ok (.iconst 0, 1) := by decide +kernel
theorem dX10_ofTable_93 : decode cX10_ofTable 93 = .ok (.iastore, 1) := by decide +kernel
theorem dX10_ofTable_94 : decode cX10_ofTable 94 = .ok (.iinc 5 1, 3) := by decide +kernel
theorem dX10_ofTable_97 : decode cX10_ofTable 97 = .ok (.goto (-23), 3) := by decide +kernel
theorem dX10_ofTable_100 : decode cX10_ofTable 100 = .ok (.aload_n 0, 1) := by decide +kernel
theorem dX10_ofTable_101 : decode cX10_ofTable 101 = .ok (.iconst 1, 1) := by decide +kernel
theorem dX10_ofTable_102 : decode cX10_ofTable 102 = .ok (.invokevirtual 129, 3) := by decide +kernel
theorem dX10_ofTable_105 : decode cX10_ofTable 105 = .ok (.ireturn, 1) := by decide +kernel
theorem dX10_ofTable_106 : decode cX10_ofTable 106 = .ok (.aload_n 0, 1) := by decide +kernel
theorem dX10_ofTable_107 : decode cX10_ofTable 107 = .ok (.getfield 55, 3) := by decide +kernel
theorem dX10_ofTable_110 : decode cX10_ofTable 110 = .ok (.iload_n 2, 1) := by decide +kernel
theorem dX10_ofTable_111 : decode cX10_ofTable 111 = .ok (.iaload, 1) := by decide +kernel
theorem dX10_ofTable_112 : decode cX10_ofTable 112 = .ok (.ifCond .ge 5, 3) := by decide +kernel
theorem dX10_ofTable_115 : decode cX10_ofTable 115 = .ok (.iconst 1, 1) := by decide +kernel
theorem dX10_ofTable_116 : decode cX10_ofTable 116 = .ok (.ireturn, 1) := by decide +kernel
theorem dX10_ofTable_117 : decode cX10_ofTable 117 = .ok (.iload_n 3, 1) := by decide +kernel
theorem dX10_ofTable_118 : decode cX10_ofTable 118 = .ok (.iconst 0, 1) := by decide +kernel
theorem dX10_ofTable_119 : decode cX10_ofTable 119 = .ok (.aload_n 0, 1) := by decide +kernel
theorem dX10_ofTable_120 : decode cX10_ofTable 120 = .ok (.getfield 55, 3) := by decide +kernel
theorem dX10_ofTable_123 : decode cX10_ofTable 123 = .ok (.iload_n 2, 1) := by decide +kernel
theorem dX10_ofTable_124 : decode cX10_ofTable 124 = .ok (.iaload, 1) := by decide +kernel
theorem dX10_ofTable_125 : decode cX10_ofTable 125 = .ok (.iconst 1, 1) := by decide +kernel
theorem dX10_ofTable_126 : decode cX10_ofTable 126 = .ok (.isub, 1) := by decide +kernel
theorem dX10_ofTable_127 : decode cX10_ofTable 127 = .ok (.invokestatic 95, 3) := by decide +kernel
theorem dX10_ofTable_130 : decode cX10_ofTable 130 = .ok (.ifCond .ne 5, 3) := by decide +kernel
theorem dX10_ofTable_133 : decode cX10_ofTable 133 = .ok (.iconst 5, 1) := by decide +kernel
theorem dX10_ofTable_134 : decode cX10_ofTable 134 = .ok (.ireturn, 1) := by decide +kernel
theorem dX10_ofTable_135 : decode cX10_ofTable 135 = .ok (.aload_n 0, 1) := by decide +kernel
theorem dX10_ofTable_136 : decode cX10_ofTable 136 = .ok (.getfield 61, 3) := by decide +kernel
theorem dX10_ofTable_139 : decode cX10_ofTable 139 = .ok (.bipush 6, 2) := by decide +kernel
theorem dX10_ofTable_141 : decode cX10_ofTable 141 = .ok (.iload_n 2, 1) := by decide +kernel
theorem dX10_ofTable_142 : decode cX10_ofTable 142 = .ok (.imul, 1) := by decide +kernel
theorem dX10_ofTable_143 : decode cX10_ofTable 143 = .ok (.iload_n 3, 1) := by decide +kernel
theorem dX10_ofTable_144 : decode cX10_ofTable 144 = .ok (.iadd, 1) := by decide +kernel
theorem dX10_ofTable_145 : decode cX10_ofTable 145 = .ok (.baload, 1) := by decide +kernel
theorem dX10_ofTable_146 : decode cX10_ofTable 146 = .ok (.ifCond .ne 5, 3) := by decide +kernel
theorem dX10_ofTable_149 : decode cX10_ofTable 149 = .ok (.iconst 1, 1) := by decide +kernel
theorem dX10_ofTable_150 : decode cX10_ofTable 150 = .ok (.ireturn, 1) := by decide +kernel
theorem dX10_ofTable_151 : decode cX10_ofTable 151 = .ok (.iload 4, 2) := by decide +kernel
theorem dX10_ofTable_153 : decode cX10_ofTable 153 = .ok (.iconst 0, 1) := by decide +kernel
theorem dX10_ofTable_154 : decode cX10_ofTable 154 = .ok (.aload_n 0, 1) := by decide +kernel
theorem dX10_ofTable_155 : decode cX10_ofTable 155 = .ok (.getfield 58, 3) := by decide +kernel
theorem dX10_ofTable_158 : decode cX10_ofTable 158 = .ok (.iload_n 2, 1) := by decide +kernel
theorem dX10_ofTable_159 : decode cX10_ofTable 159 = .ok (.iaload, 1) := by decide +kernel
theorem dX10_ofTable_160 : decode cX10_ofTable 160 = .ok (.iconst 1, 1) := by decide +kernel
theorem dX10_ofTable_161 : decode cX10_ofTable 161 = .ok (.isub, 1) := by decide +kernel
theorem dX10_ofTable_162 : decode cX10_ofTable 162 = .ok (.invokestatic 95, 3) := by decide +kernel
theorem dX10_ofTable_165 : decode cX10_ofTable 165 = .ok (.ifCond .ne 5, 3) := by decide +kernel
theorem dX10_ofTable_168 : decode cX10_ofTable 168 = .ok (.iconst 5, 1) := by decide +kernel
theorem dX10_ofTable_169 : decode cX10_ofTable 169 = .ok (.ireturn, 1) := by decide +kernel
theorem dX10_ofTable_170 : decode cX10_ofTable 170 = .ok (.bipush 36, 2) := by decide +kernel
theorem dX10_ofTable_172 : decode cX10_ofTable 172 = .ok (.iload_n 2, 1) := by decide +kernel
theorem dX10_ofTable_173 : decode cX10_ofTable 173 = .ok (.imul, 1) := by decide +kernel
theorem dX10_ofTable_174 : decode cX10_ofTable 174 = .ok (.bipush 6, 2) := by decide +kernel
theorem dX10_ofTable_176 : decode cX10_ofTable 176 = .ok (.iload_n 3, 1) := by decide +kernel
theorem dX10_ofTable_177 : decode cX10_ofTable 177 = .ok (.imul, 1) := by decide +kernel
theorem dX10_ofTable_178 : decode cX10_ofTable 178 = .ok (.iadd, 1) := by decide +kernel
theorem dX10_ofTable_179 : decode cX10_ofTable 179 = .ok (.iload 4, 2) := by decide +kernel
theorem dX10_ofTable_181 : decode cX10_ofTable 181 = .ok (.iadd, 1) := by decide +kernel
theorem dX10_ofTable_182 : decode cX10_ofTable 182 = .ok (.istore 5, 2) := by decide +kernel
theorem dX10_ofTable_184 : decode cX10_ofTable 184 = .ok (.aload_n 0, 1) := by decide +kernel
theorem dX10_ofTable_185 : decode cX10_ofTable 185 = .ok (.getfield 65, 3) := by decide +kernel
theorem dX10_ofTable_188 : decode cX10_ofTable 188 = .ok (.iload 5, 2) := by decide +kernel
theorem dX10_ofTable_190 : decode cX10_ofTable 190 = .ok (.dup2, 1) := by decide +kernel
theorem dX10_ofTable_191 : decode cX10_ofTable 191 = .ok (.iaload, 1) := by decide +kernel
theorem dX10_ofTable_192 : decode cX10_ofTable 192 = .ok (.iconst 1, 1) := by decide +kernel
theorem dX10_ofTable_193 : decode cX10_ofTable 193 = .ok (.iadd, 1) := by decide +kernel
theorem dX10_ofTable_194 : decode cX10_ofTable 194 = .ok (.iastore, 1) := by decide +kernel
theorem dX10_ofTable_195 : decode cX10_ofTable 195 = .ok (.aload_n 0, 1) := by decide +kernel
theorem dX10_ofTable_196 : decode cX10_ofTable 196 = .ok (.aload_n 0, 1) := by decide +kernel
theorem dX10_ofTable_197 : decode cX10_ofTable 197 = .ok (.getfield 65, 3) := by decide +kernel
theorem dX10_ofTable_200 : decode cX10_ofTable 200 = .ok (.iload 5, 2) := by decide +kernel
theorem dX10_ofTable_202 : decode cX10_ofTable 202 = .ok (.iaload, 1) := by decide +kernel
theorem dX10_ofTable_203 : decode cX10_ofTable 203 = .ok (.invokevirtual 129, 3) := by decide +kernel
theorem dX10_ofTable_206 : decode cX10_ofTable 206 = .ok (.ireturn, 1) := by decide +kernel
set_option maxRecDepth 20000 in
theorem ggX10_attempt_X10_does : GoodIn wsX10_attempt wsX10_does := goodIn_r _ [8, 9, 10, 11, 12, 13, 14, 15, 7, 16, 17, 18, 19, 20, 21, 22, 23, 24, 25, 26, 27, 1, 28, 29, 30, 31, 32, 33, 34, 35, 36, 37, 38, 39, 40, 41, 42, 43, 44, 45, 46, 47, 48, 49, 50, 51, 52, 53, 54, 55, 56, 57, 58, 59, 60, 61, 62, 63, 64, 65, 66, 67, 68, 69, 70, 71, 72, 73, 74, 75, 76, 77, 78, 79, 80, 81, 82, 83, 84, 85, 86, 87, 88, 89, 90, 91, 92, 93, 94, 95, 96, 97, 98, 99, 100, 101, 102, 103, 104, 105, 106, 107, 108, 109] (by decide +kernel) (by decide +kernel)
set_option maxRecDepth 20000 in
theorem gX10_attempt_X10_does : GoodIn wsX10_attempt (wsV RX10 155 RX10 yX10_does wsX10_does) := goodIn_app (goodIn_of _ (by decide +kernel)) ggX10_attempt_X10_does
theorem dX10_attempt_0 : decode cX10_attempt 0 = .ok (.aload_n 0, 1) := by decide +kernel
theorem dX10_attempt_1 : decode cX10_attempt 1 = .ok (.iload_n 1, 1) := by decide +kernel
theorem dX10_attempt_2 : decode cX10_attempt 2 = .ok (.iload_n 2, 1) := by decide +kernel
theorem dX10_attempt_3 : decode cX10_attempt 3 = .ok (.iload_n 3, 1) := by decide +kernel
theorem dX10_attempt_4 : decode cX10_attempt 4 = .ok (.iload 4, 2) := by decide +kernel
theorem dX10_attempt_6 : decode cX10_attempt 6 = .ok (.invokevirtual 155, 3) := by decide +kernel
theorem dX10_attempt_9 : decode cX10_attempt 9 = .ok (.istore 5, 2) := by decide +kernel
theorem dX10_attempt_11 : decode cX10_attempt 11 = .ok (.aload_n 0, 1) := by decide +kernel
theorem dX10_attempt_12 : decode cX10_attempt 12 = .ok (.iload 5, 2) := by decide +kernel
theorem dX10_attempt_14 : decode cX10_attempt 14 = .ok (.ifCond .eq 10, 3) := by decide +kernel
theorem dX10_attempt_17 : decode cX10_attempt 17 = .ok (.iload 5, 2) := by decide +kernel
theorem dX10_attempt_19 : decode cX10_attempt 19 = .ok (.bipush 6, 2) := by decide +kernel
theorem dX10_attempt_21 : decode cX10_attempt 21 = .ok (.if_icmp .ne 10, 3) := by decide +kernel
theorem dX10_attempt_24 : decode cX10_attempt 24 = .ok (.aload_n 0, 1) := by decide +kernel
theorem dX10_attempt_25 : decode cX10_attempt 25 = .ok (.getfield 115, 3) := by decide +kernel
theorem dX10_attempt_28 : decode cX10_attempt 28 = .ok (.goto 7, 3) := by decide +kernel
theorem dX10_attempt_31 : decode cX10_attempt 31 = .ok (.aload_n 0, 1) := by decide +kernel
theorem dX10_attempt_32 : decode cX10_attempt 32 = .ok (.getfield 158, 3) := by decide +kernel
theorem dX10_attempt_35 : decode cX10_attempt 35 = .ok (.putfield 158, 3) := by decide +kernel
theorem dX10_attempt_38 : decode cX10_attempt 38 = .ok (.aload_n 0, 1) := by decide +kernel
theorem dX10_attempt_39 : decode cX10_attempt 39 = .ok (.getfield 92, 3) := by decide +kernel
theorem dX10_attempt_42 : decode cX10_attempt 42 = .ok (.iload 5, 2) := by decide +kernel
theorem dX10_attempt_44 : decode cX10_attempt 44 = .ok (.dup2, 1) := by decide +kernel
theorem dX10_attempt_45 : decode cX10_attempt 45 = .ok (.iaload, 1) := by decide +kernel
theorem dX10_attempt_46 : decode cX10_attempt 46 = .ok (.iconst 1, 1) := by decide +kernel
theorem dX10_attempt_47 : decode cX10_attempt 47 = .ok (.iadd, 1) := by decide +kernel
theorem dX10_attempt_48 : decode cX10_attempt 48 = .ok (.iastore, 1) := by decide +kernel
theorem dX10_attempt_49 : decode cX10_attempt 49 = .ok (.iload 5, 2) := by decide +kernel
theorem dX10_attempt_51 : decode cX10_attempt 51 = .ok (.ireturn, 1) := by decide +kernel
set_option maxRecDepth 20000 in
theorem ggX10_act_X10_in : GoodIn wsX10_act wsX10_in := goodIn_r _ [5] (by decide +kernel) (by decide +kernel)
set_option maxRecDepth 20000 in
theorem gX10_act_X10_in : GoodIn wsX10_act (va_wsS RX10 95 yX10_in wsX10_in) := goodIn_app (goodIn_of _ (by decide +kernel)) ggX10_act_X10_in
set_option maxRecDepth 20000 in
theorem ggX10_act_X10_attempt : GoodIn wsX10_act wsX10_attempt := goodIn_r _ [9, 10, 11, 12, 13, 14, 15, 4, 16, 17, 18, 19, 20, 21, 22, 23, 24, 25, 26, 27, 28, 29, 30, 31, 32, 33, 34, 35, 36, 37, 38, 39, 40, 41, 42, 43, 44, 45, 46, 47, 48, 49, 50, 51, 52, 53, 54, 55, 56, 57, 58, 59, 60, 61, 2, 3, 5, 62, 63, 64, 65, 66, 67, 68, 69, 70, 71, 72, 73, 74, 75, 76, 77, 78, 79, 80, 81, 82, 83, 84, 85, 86, 87, 88, 89, 90, 91, 92, 93, 94, 95, 96, 97, 98, 99, 100, 101, 102, 103, 104, 105, 106, 107, 108, 109, 110, 111, 112, 113, 114] (by decide +kernel) (by decide +kernel)
set_option maxRecDepth 20000 in
theorem gX10_act_X10_attempt : GoodIn wsX10_act (wsV RX10 161 RX10 yX10_attempt wsX10_attempt) := goodIn_app (goodIn_of _ (by decide +kernel)) ggX10_act_X10_attempt
theorem dX10_act_0 : decode cX10_act 0 = .ok (.iload_n 1, 1) := by decide +kernel
theorem dX10_act_1 : decode cX10_act 1 = .ok (.iconst 0, 1) := by decide +kernel
theorem dX10_act_2 : decode cX10_act 2 = .ok (.bipush 17, 2) := by decide +kernel
theorem dX10_act_4 : decode cX10_act 4 = .ok (.invokestatic 95, 3) := by decide +kernel
theorem dX10_act_7 : decode cX10_act 7 = .ok (.ifCond .ne 6, 3) := by decide +kernel
theorem dX10_act_10 : decode cX10_act 10 = .ok (.ldc 99, 2) := by decide +kernel
theorem dX10_act_12 : decode cX10_act 12 = .ok (.ireturn, 1) := by decide +kernel
theorem dX10_act_13 : decode cX10_act 13 = .ok (.aload_n 0, 1) := by decide +kernel
theorem dX10_act_14 : decode cX10_act 14 = .ok (.iload_n 1, 1) := by decide +kernel
theorem dX10_act_15 : decode cX10_act 15 = .ok (.iload_n 2, 1) := by decide +kernel
theorem dX10_act_16 : decode cX10_act 16 = .ok (.iload_n 3, 1) := by decide +kernel
theorem dX10_act_17 : decode cX10_act 17 = .ok (.iload 4, 2) := by decide +kernel
theorem dX10_act_19 : decode cX10_act 19 = .ok (.invokevirtual 161, 3) := by decide +kernel
theorem dX10_act_22 : decode cX10_act 22 = .ok (.istore 5, 2) := by decide +kernel
theorem dX10_act_24 : decode cX10_act 24 = .ok (.iload 5, 2) := by decide +kernel
theorem dX10_act_26 : decode cX10_act 26 = .ok (.ifCond .ne 7, 3) := by decide +kernel
theorem dX10_act_29 : decode cX10_act 29 = .ok (.iconst 1, 1) := by decide +kernel
theorem dX10_act_30 : decode cX10_act 30 = .ok (.goto 8, 3) := by decide +kernel
theorem dX10_act_33 : decode cX10_act 33 = .ok (.bipush (-10), 2) := by decide +kernel
theorem dX10_act_35 : decode cX10_act 35 = .ok (.iload 5, 2) := by decide +kernel
theorem dX10_act_37 : decode cX10_act 37 = .ok (.isub, 1) := by decide +kernel
theorem dX10_act_38 : decode cX10_act 38 = .ok (.ireturn, 1) := by decide +kernel
theorem dX10_came_0 : decode cX10_came 0 = .ok (.aload_n 0, 1) := by decide +kernel
theorem dX10_came_1 : decode cX10_came 1 = .ok (.getfield 158, 3) := by decide +kernel
theorem dX10_came_4 : decode cX10_came 4 = .ok (.ireturn, 1) := by decide +kernel
set_option maxRecDepth 20000 in
theorem ggX10_task_X10_in : GoodIn wsX10_task wsX10_in := goodIn_r _ [11] (by decide +kernel) (by decide +kernel)
set_option maxRecDepth 20000 in
theorem gX10_task_X10_in : GoodIn wsX10_task (va_wsS RX10 95 yX10_in wsX10_in) := goodIn_app (goodIn_of _ (by decide +kernel)) ggX10_task_X10_in
theorem dX10_task_0 : decode cX10_task 0 = .ok (.iload_n 1, 1) := by decide +kernel
theorem dX10_task_1 : decode cX10_task 1 = .ok (.iconst 0, 1) := by decide +kernel
theorem dX10_task_2 : decode cX10_task 2 = .ok (.bipush 17, 2) := by decide +kernel
theorem dX10_task_4 : decode cX10_task 4 = .ok (.invokestatic 95, 3) := by decide +kernel
theorem dX10_task_7 : decode cX10_task 7 = .ok (.ifCond .ne 6, 3) := by decide +kernel
theorem dX10_task_10 : decode cX10_task 10 = .ok (.ldc 99, 2) := by decide +kernel
theorem dX10_task_12 : decode cX10_task 12 = .ok (.ireturn, 1) := by decide +kernel
theorem dX10_task_13 : decode cX10_task 13 = .ok (.aload_n 0, 1) := by decide +kernel
theorem dX10_task_14 : decode cX10_task 14 = .ok (.getfield 164, 3) := by decide +kernel
theorem dX10_task_17 : decode cX10_task 17 = .ok (.bipush 20, 2) := by decide +kernel
theorem dX10_task_19 : decode cX10_task 19 = .ok (.if_icmp .ne 6, 3) := by decide +kernel
theorem dX10_task_22 : decode cX10_task 22 = .ok (.ldc 104, 2) := by decide +kernel
theorem dX10_task_24 : decode cX10_task 24 = .ok (.ireturn, 1) := by decide +kernel
theorem dX10_task_25 : decode cX10_task 25 = .ok (.aload_n 0, 1) := by decide +kernel
theorem dX10_task_26 : decode cX10_task 26 = .ok (.getfield 74, 3) := by decide +kernel
theorem dX10_task_29 : decode cX10_task 29 = .ok (.aload_n 0, 1) := by decide +kernel
theorem dX10_task_30 : decode cX10_task 30 = .ok (.getfield 164, 3) := by decide +kernel
theorem dX10_task_33 : decode cX10_task 33 = .ok (.iload_n 1, 1) := by decide +kernel
theorem dX10_task_34 : decode cX10_task 34 = .ok (.iastore, 1) := by decide +kernel
theorem dX10_task_35 : decode cX10_task 35 = .ok (.aload_n 0, 1) := by decide +kernel
theorem dX10_task_36 : decode cX10_task 36 = .ok (.getfield 77, 3) := by decide +kernel
theorem dX10_task_39 : decode cX10_task 39 = .ok (.aload_n 0, 1) := by decide +kernel
theorem dX10_task_40 : decode cX10_task 40 = .ok (.getfield 164, 3) := by decide +kernel
theorem dX10_task_43 : decode cX10_task 43 = .ok (.iload_n 2, 1) := by decide +kernel
theorem dX10_task_44 : decode cX10_task 44 = .ok (.iastore, 1) := by decide +kernel
theorem dX10_task_45 : decode cX10_task 45 = .ok (.aload_n 0, 1) := by decide +kernel
theorem dX10_task_46 : decode cX10_task 46 = .ok (.getfield 80, 3) := by decide +kernel
theorem dX10_task_49 : decode cX10_task 49 = .ok (.aload_n 0, 1) := by decide +kernel
theorem dX10_task_50 : decode cX10_task 50 = .ok (.getfield 164, 3) := by decide +kernel
theorem dX10_task_53 : decode cX10_task 53 = .ok (.iload_n 3, 1) := by decide +kernel
theorem dX10_task_54 : decode cX10_task 54 = .ok (.iastore, 1) := by decide +kernel
theorem dX10_task_55 : decode cX10_task 55 = .ok (.aload_n 0, 1) := by decide +kernel
theorem dX10_task_56 : decode cX10_task 56 = .ok (.getfield 83, 3) := by decide +kernel
theorem dX10_task_59 : decode cX10_task 59 = .ok (.aload_n 0, 1) := by decide +kernel
theorem dX10_task_60 : decode cX10_task 60 = .ok (.getfield 164, 3) := by decide +kernel
theorem dX10_task_63 : decode cX10_task 63 = .ok (.iload 4, 2) := by decide +kernel
theorem dX10_task_65 : decode cX10_task 65 = .ok (.iastore, 1) := by decide +kernel
theorem dX10_task_66 : decode cX10_task 66 = .ok (.aload_n 0, 1) := by decide +kernel
theorem dX10_task_67 : decode cX10_task 67 = .ok (.dup, 1) := by decide +kernel
theorem dX10_task_68 : decode cX10_task 68 = .ok (.getfield 164, 3) := by decide +kernel
theorem dX10_task_71 : decode cX10_task 71 = .ok (.iconst 1, 1) := by decide +kernel
theorem dX10_task_72 : decode cX10_task 72 = .ok (.iadd, 1) := by decide +kernel
theorem dX10_task_73 : decode cX10_task 73 = .ok (.putfield 164, 3) := by decide +kernel
theorem dX10_task_76 : decode cX10_task 76 = .ok (.aload_n 0, 1) := by decide +kernel
theorem dX10_task_77 : decode cX10_task 77 = .ok (.getfield 164, 3) := by decide +kernel
theorem dX10_task_80 : decode cX10_task 80 = .ok (.ireturn, 1) := by decide +kernel
theorem dX10_clear_0 : decode cX10_clear 0 = .ok (.aload_n 0, 1) := by decide +kernel
theorem dX10_clear_1 : decode cX10_clear 1 = .ok (.getfield 164, 3) := by decide +kernel
theorem dX10_clear_4 : decode cX10_clear 4 = .ok (.istore_n 1, 1) := by decide +kernel
theorem dX10_clear_5 : decode cX10_clear 5 = .ok (.aload_n 0, 1) := by decide +kernel
theorem dX10_clear_6 : decode cX10_clear 6 = .ok (.iconst 0, 1) := by decide +kernel
theorem dX10_clear_7 : decode cX10_clear 7 = .ok (.putfield 164, 3) := by decide +kernel
theorem dX10_clear_10 : decode cX10_clear 10 = .ok (.iload_n 1, 1) := by decide +kernel
theorem dX10_clear_11 : decode cX10_clear 11 = .ok (.ireturn, 1) := by decide +kernel
set_option maxRecDepth 20000 in
theorem ggX10_day_X10_attempt : GoodIn wsX10_day wsX10_attempt := goodIn_r _ [13, 14, 15, 16, 17, 18, 19, 12, 20, 21, 22, 23, 24, 25, 26, 27, 28, 29, 30, 31, 32, 33, 34, 35, 36, 37, 38, 39, 40, 41, 42, 43, 44, 45, 46, 47, 48, 49, 50, 51, 52, 53, 54, 55, 56, 57, 58, 59, 60, 61, 62, 63, 64, 65, 66, 67, 68, 69, 70, 71, 72, 73, 74, 75, 76, 77, 78, 79, 80, 81, 82, 83, 84, 85, 86, 87, 88, 89, 90, 91, 92, 93, 94, 95, 96, 97, 98, 99, 100, 101, 102, 103, 104, 105, 106, 107, 108, 109, 110, 111, 112, 113, 114, 115, 116, 117, 118, 119, 120, 121] (by decide +kernel) (by decide +kernel)
set_option maxRecDepth 20000 in
theorem gX10_day_X10_attempt : GoodIn wsX10_day (wsV RX10 161 RX10 yX10_attempt wsX10_attempt) := goodIn_app (goodIn_of _ (by decide +kernel)) ggX10_day_X10_attempt
theorem dX10_day_0 : decode cX10_day 0 = .ok (.iconst 0, 1) := by decide +kernel
theorem dX10_day_1 : decode cX10_day 1 = .ok (.istore_n 1, 1) := by decide +kernel
theorem dX10_day_2 : decode cX10_day 2 = .ok (.iconst 0, 1) := by decide +kernel
theorem dX10_day_3 : decode cX10_day 3 = .ok (.istore_n 2, 1) := by decide +kernel
theorem dX10_day_4 : decode cX10_day 4 = .ok (.iconst 0, 1) := by decide +kernel
theorem dX10_day_5 : decode cX10_day 5 = .ok (.istore_n 3, 1) := by decide +kernel
theorem dX10_day_6 : decode cX10_day 6 = .ok (.iload_n 3, 1) := by decide +kernel
theorem dX10_day_7 : decode cX10_day 7 = .ok (.aload_n 0, 1) := by decide +kernel
theorem dX10_day_8 : decode cX10_day 8 = .ok (.getfield 164, 3) := by decide +kernel
theorem dX10_day_11 : decode cX10_day 11 = .ok (.if_icmp .ge 105, 3) := by decide +kernel
theorem dX10_day_14 : decode cX10_day 14 = .ok (.aload_n 0, 1) := by decide +kernel
theorem dX10_day_15 : decode cX10_day 15 = .ok (.aload_n 0, 1) := by decide +kernel
theorem dX10_day_16 : decode cX10_day 16 = .ok (.getfield 74, 3) := by decide +kernel
theorem dX10_day_19 : decode cX10_day 19 = .ok (.iload_n 3, 1) := by decide +kernel
theorem dX10_day_20 : decode cX10_day 20 = .ok (.iaload, 1) := by decide +kernel
theorem dX10_day_21 : decode cX10_day 21 = .ok (.aload_n 0, 1) := by decide +kernel
theorem dX10_day_22 : decode cX10_day 22 = .ok (.getfield 77, 3) := by decide +kernel
theorem dX10_day_25 : decode cX10_day 25 = .ok (.iload_n 3, 1) := by decide +kernel
theorem dX10_day_26 : decode cX10_day 26 = .ok (.iaload, 1) := by decide +kernel
theorem dX10_day_27 : decode cX10_day 27 = .ok (.aload_n 0, 1) := by decide +kernel
theorem dX10_day_28 : decode cX10_day 28 = .ok (.getfield 80, 3) := by decide +kernel
theorem dX10_day_31 : decode cX10_day 31 = .ok (.iload_n 3, 1) := by decide +kernel
theorem dX10_day_32 : decode cX10_day 32 = .ok (.iaload, 1) := by decide +kernel
theorem dX10_day_33 : decode cX10_day 33 = .ok (.aload_n 0, 1) := by decide +kernel
theorem dX10_day_34 : decode cX10_day 34 = .ok (.getfield 83, 3) := by decide +kernel
theorem dX10_day_37 : decode cX10_day 37 = .ok (.iload_n 3, 1) := by decide +kernel
theorem dX10_day_38 : decode cX10_day 38 = .ok (.iaload, 1) := by decide +kernel
theorem dX10_day_39 : decode cX10_day 39 = .ok (.invokevirtual 161, 3) := by decide +kernel
theorem dX10_day_42 : decode cX10_day 42 = .ok (.istore 4, 2) := by decide +kernel
theorem dX10_day_44 : decode cX10_day 44 = .ok (.iload 4, 2) := by decide +kernel
theorem dX10_day_46 : decode cX10_day 46 = .ok (.ifCond .ne 9, 3) := by decide +kernel
theorem dX10_day_49 : decode cX10_day 49 = .ok (.iinc 1 1, 3) := by decide +kernel
theorem dX10_day_52 : decode cX10_day 52 = .ok (.goto 46, 3) := by decide +kernel
theorem dX10_day_55 : decode cX10_day 55 = .ok (.aload_n 0, 1) := by decide +kernel
theorem dX10_day_56 : decode cX10_day 56 = .ok (.getfield 167, 3) := by decide +kernel
theorem dX10_day_59 : decode cX10_day 59 = .ok (.bipush 40, 2) := by decide +kernel
theorem dX10_day_61 : decode cX10_day 61 = .ok (.if_icmp .ge 24, 3) := by decide +kernel
theorem dX10_day_64 : decode cX10_day 64 = .ok (.aload_n 0, 1) := by decide +kernel
theorem dX10_day_65 : decode cX10_day 65 = .ok (.getfield 86, 3) := by decide +kernel
theorem dX10_day_68 : decode cX10_day 68 = .ok (.aload_n 0, 1) := by decide +kernel
theorem dX10_day_69 : decode cX10_day 69 = .ok (.getfield 167, 3) := by decide +kernel
theorem dX10_day_72 : decode cX10_day 72 = .ok (.iload_n 3, 1) := by decide +kernel
theorem dX10_day_73 : decode cX10_day 73 = .ok (.iastore, 1) := by decide +kernel
theorem dX10_day_74 : decode cX10_day 74 = .ok (.aload_n 0, 1) := by decide +kernel
theorem dX10_day_75 : decode cX10_day 75 = .ok (.getfield 89, 3) := by decide +kernel
theorem dX10_day_78 : decode cX10_day 78 = .ok (.aload_n 0, 1) := by decide +kernel
theorem dX10_day_79 : decode cX10_day 79 = .ok (.getfield 167, 3) := by decide +kernel
theorem dX10_day_82 : decode cX10_day 82 = .ok (.iload 4, 2) := by decide +kernel
theorem dX10_day_84 : decode cX10_day 84 = .ok (.iastore, 1) := by decide +kernel
theorem dX10_day_85 : decode cX10_day 85 = .ok (.aload_n 0, 1) := by decide +kernel
theorem dX10_day_86 : decode cX10_day 86 = .ok (.dup, 1) := by decide +kernel
theorem dX10_day_87 : decode cX10_day 87 = .ok (.getfield 167, 3) := by decide +kernel
theorem dX10_day_90 : decode cX10_day 90 = .ok (.iconst 1, 1) := by decide +kernel
theorem dX10_day_91 : decode cX10_day 91 = .ok (.iadd, 1) := by decide +kernel
theorem dX10_day_92 : decode cX10_day 92 = .ok (.putfield 167, 3) := by decide +kernel
theorem dX10_day_95 : decode cX10_day 95 = .ok (.iinc 2 1, 3) := by decide +kernel
theorem dX10_day_98 : decode cX10_day 98 = .ok (.iload 4, 2) := by decide +kernel
theorem dX10_day_100 : decode cX10_day 100 = .ok (.bipush 6, 2) := by decide +kernel
theorem dX10_day_102 : decode cX10_day 102 = .ok (.if_icmp .ne 8, 3) := by decide +kernel
theorem dX10_day_105 : decode cX10_day 105 = .ok (.bipush (-10), 2) := by decide +kernel
theorem dX10_day_107 : decode cX10_day 107 = .ok (.iload_n 2, 1) := by decide +kernel
theorem dX10_day_108 : decode cX10_day 108 = .ok (.isub, 1) := by decide +kernel
theorem dX10_day_109 : decode cX10_day 109 = .ok (.ireturn, 1) := by decide +kernel
theorem dX10_day_110 : decode cX10_day 110 = .ok (.iinc 3 1, 3) := by decide +kernel
theorem dX10_day_113 : decode cX10_day 113 = .ok (.goto (-107), 3) := by decide +kernel
theorem dX10_day_116 : decode cX10_day 116 = .ok (.iload_n 1, 1) := by decide +kernel
theorem dX10_day_117 : decode cX10_day 117 = .ok (.ireturn, 1) := by decide +kernel
set_option maxRecDepth 20000 in
theorem ggX10_book_X10_least : GoodIn wsX10_book wsX10_least := goodIn_r _ [8] (by decide +kernel) (by decide +kernel)
set_option maxRecDepth 20000 in
theorem gX10_book_X10_least : GoodIn wsX10_book (va_wsS RX10 146 yX10_least wsX10_least) := goodIn_app (goodIn_of _ (by decide +kernel)) ggX10_book_X10_least
set_option maxRecDepth 20000 in
theorem ggX10_book_X10_in : GoodIn wsX10_book wsX10_in := goodIn_r _ [11] (by decide +kernel) (by decide +kernel)
set_option maxRecDepth 20000 in
theorem gX10_book_X10_in : GoodIn wsX10_book (va_wsS RX10 95 yX10_in wsX10_in) := goodIn_app (goodIn_of _ (by decide +kernel)) ggX10_book_X10_in
theorem dX10_book_0 : decode cX10_book 0 = .ok (.iload_n 1, 1) := by decide +kernel
theorem dX10_book_1 : decode cX10_book 1 = .ok (.iconst 0, 1) := by decide +kernel
theorem dX10_book_2 : decode cX10_book 2 = .ok (.aload_n 0, 1) := by decide +kernel
theorem dX10_book_3 : decode cX10_book 3 = .ok (.getfield 167, 3) := by decide +kernel
theorem dX10_book_6 : decode cX10_book 6 = .ok (.bipush 40, 2) := by decide +kernel
theorem dX10_book_8 : decode cX10_book 8 = .ok (.invokestatic 146, 3) := by decide +kernel
theorem dX10_book_11 : decode cX10_book 11 = .ok (.iconst 1, 1) := by decide +kernel
theorem dX10_book_12 : decode cX10_book 12 = .ok (.isub, 1) := by decide +kernel
theorem dX10_book_13 : decode cX10_book 13 = .ok (.invokestatic 95, 3) := by decide +kernel
theorem dX10_book_16 : decode cX10_book 16 = .ok (.ifCond .eq 12, 3) := by decide +kernel
theorem dX10_book_19 : decode cX10_book 19 = .ok (.iload_n 2, 1) := by decide +kernel
theorem dX10_book_20 : decode cX10_book 20 = .ok (.iconst 0, 1) := by decide +kernel
theorem dX10_book_21 : decode cX10_book 21 = .ok (.iconst 1, 1) := by decide +kernel
theorem dX10_book_22 : decode cX10_book 22 = .ok (.invokestatic 95, 3) := by decide +kernel
theorem dX10_book_25 : decode cX10_book 25 = .ok (.ifCond .ne 6, 3) := by decide +kernel
theorem dX10_book_28 : decode cX10_book 28 = .ok (.ldc 99, 2) := by decide +kernel
theorem dX10_book_30 : decode cX10_book 30 = .ok (.ireturn, 1) := by decide +kernel
theorem dX10_book_31 : decode cX10_book 31 = .ok (.iload_n 2, 1) := by decide +kernel
theorem dX10_book_32 : decode cX10_book 32 = .ok (.ifCond .ne 12, 3) := by decide +kernel
theorem dX10_book_35 : decode cX10_book 35 = .ok (.aload_n 0, 1) := by decide +kernel
theorem dX10_book_36 : decode cX10_book 36 = .ok (.getfield 86, 3) := by decide +kernel
theorem dX10_book_39 : decode cX10_book 39 = .ok (.iload_n 1, 1) := by decide +kernel
theorem dX10_book_40 : decode cX10_book 40 = .ok (.iaload, 1) := by decide +kernel
theorem dX10_book_41 : decode cX10_book 41 = .ok (.goto 9, 3) := by decide +kernel
theorem dX10_book_44 : decode cX10_book 44 = .ok (.aload_n 0, 1) := by decide +kernel
theorem dX10_book_45 : decode cX10_book 45 = .ok (.getfield 89, 3) := by decide +kernel
theorem dX10_book_48 : decode cX10_book 48 = .ok (.iload_n 1, 1) := by decide +kernel
theorem dX10_book_49 : decode cX10_book 49 = .ok (.iaload, 1) := by decide +kernel
theorem dX10_book_50 : decode cX10_book 50 = .ok (.ireturn, 1) := by decide +kernel
set_option maxRecDepth 20000 in
theorem ggX10_horseTells_X10_in : GoodIn wsX10_horseTells wsX10_in := goodIn_r _ [12] (by decide +kernel) (by decide +kernel)
set_option maxRecDepth 20000 in
theorem gX10_horseTells_X10_in : GoodIn wsX10_horseTells (va_wsS RX10 95 yX10_in wsX10_in) := goodIn_app (goodIn_of _ (by decide +kernel)) ggX10_horseTells_X10_in
theorem dX10_horseTells_0 : decode cX10_horseTells 0 = .ok (.iload_n 1, 1) := by decide +kernel
theorem dX10_horseTells_1 : decode cX10_horseTells 1 = .ok (.iconst 0, 1) := by decide +kernel
theorem dX10_horseTells_2 : decode cX10_horseTells 2 = .ok (.bipush 9, 2) := by decide +kernel
theorem dX10_horseTells_4 : decode cX10_horseTells 4 = .ok (.invokestatic 95, 3) := by decide +kernel
theorem dX10_horseTells_7 : decode cX10_horseTells 7 = .ok (.ifCond .eq 21, 3) := by decide +kernel
theorem dX10_horseTells_10 : decode cX10_horseTells 10 = .ok (.iload_n 2, 1) := by decide +kernel
theorem dX10_horseTells_11 : decode cX10_horseTells 11 = .ok (.iconst 0, 1) := by decide +kernel
theorem dX10_horseTells_12 : decode cX10_horseTells 12 = .ok (.iconst 5, 1) := by decide +kernel
theorem dX10_horseTells_13 : decode cX10_horseTells 13 = .ok (.invokestatic 95, 3) := by decide +kernel
theorem dX10_horseTells_16 : decode cX10_horseTells 16 = .ok (.ifCond .eq 12, 3) := by decide +kernel
theorem dX10_horseTells_19 : decode cX10_horseTells 19 = .ok (.aload_n 0, 1) := by decide +kernel
theorem dX10_horseTells_20 : decode cX10_horseTells 20 = .ok (.getfield 34, 3) := by decide +kernel
theorem dX10_horseTells_23 : decode cX10_horseTells 23 = .ok (.iload_n 1, 1) := by decide +kernel
theorem dX10_horseTells_24 : decode cX10_horseTells 24 = .ok (.iaload, 1) := by decide +kernel
theorem dX10_horseTells_25 : decode cX10_horseTells 25 = .ok (.ifCond .ge 6, 3) := by decide +kernel
theorem dX10_horseTells_28 : decode cX10_horseTells 28 = .ok (.ldc 99, 2) := by decide +kernel
theorem dX10_horseTells_30 : decode cX10_horseTells 30 = .ok (.ireturn, 1) := by decide +kernel
theorem dX10_horseTells_31 : decode cX10_horseTells 31 = .ok (.aload_n 0, 1) := by decide +kernel
theorem dX10_horseTells_32 : decode cX10_horseTells 32 = .ok (.getfield 34, 3) := by decide +kernel
theorem dX10_horseTells_35 : decode cX10_horseTells 35 = .ok (.iload_n 1, 1) := by decide +kernel
theorem dX10_horseTells_36 : decode cX10_horseTells 36 = .ok (.iaload, 1) := by decide +kernel
theorem dX10_horseTells_37 : decode cX10_horseTells 37 = .ok (.istore_n 3, 1) := by decide +kernel
theorem dX10_horseTells_38 : decode cX10_horseTells 38 = .ok (.iload_n 2, 1) := by decide +kernel
theorem dX10_horseTells_39 : decode cX10_horseTells 39 = .ok (.tableswitch 68 0 4 #[33, 40, 47, 54, 61], 33) := by decide +kernel
theorem dX10_horseTells_72 : decode cX10_horseTells 72 = .ok (.aload_n 0, 1) := by decide +kernel
theorem dX10_horseTells_73 : decode cX10_horseTells 73 = .ok (.getfield 7, 3) := by decide +kernel
theorem dX10_horseTells_76 : decode cX10_horseTells 76 = .ok (.iload_n 3, 1) := by decide +kernel
theorem dX10_horseTells_77 : decode cX10_horseTells 77 = .ok (.iaload, 1) := by decide +kernel
theorem dX10_horseTells_78 : decode cX10_horseTells 78 = .ok (.ireturn, 1) := by decide +kernel
theorem dX10_horseTells_79 : decode cX10_horseTells 79 = .ok (.aload_n 0, 1) := by decide +kernel
theorem dX10_horseTells_80 : decode cX10_horseTells 80 = .ok (.getfield 13, 3) := by decide +kernel
theorem dX10_horseTells_83 : decode cX10_horseTells 83 = .ok (.iload_n 3, 1) := by decide +kernel
theorem dX10_horseTells_84 : decode cX10_horseTells 84 = .ok (.iaload, 1) := by decide +kernel
theorem dX10_horseTells_85 : decode cX10_horseTells 85 = .ok (.ireturn, 1) := by decide +kernel
theorem dX10_horseTells_86 : decode cX10_horseTells 86 = .ok (.aload_n 0, 1) := by decide +kernel
theorem dX10_horseTells_87 : decode cX10_horseTells 87 = .ok (.getfield 16, 3) := by decide +kernel
theorem dX10_horseTells_90 : decode cX10_horseTells 90 = .ok (.iload_n 3, 1) := by decide +kernel
theorem dX10_horseTells_91 : decode cX10_horseTells 91 = .ok (.iaload, 1) := by decide +kernel
theorem dX10_horseTells_92 : decode cX10_horseTells 92 = .ok (.ireturn, 1) := by decide +kernel
theorem dX10_horseTells_93 : decode cX10_horseTells 93 = .ok (.aload_n 0, 1) := by decide +kernel
theorem dX10_horseTells_94 : decode cX10_horseTells 94 = .ok (.getfield 19, 3) := by decide +kernel
theorem dX10_horseTells_97 : decode cX10_horseTells 97 = .ok (.iload_n 3, 1) := by decide +kernel
theorem dX10_horseTells_98 : decode cX10_horseTells 98 = .ok (.iaload, 1) := by decide +kernel
theorem dX10_horseTells_99 : decode cX10_horseTells 99 = .ok (.ireturn, 1) := by decide +kernel
theorem dX10_horseTells_100 : decode cX10_horseTells 100 = .ok (.aload_n 0, 1) := by decide +kernel
theorem dX10_horseTells_101 : decode cX10_horseTells 101 = .ok (.getfield 22, 3) := by decide +kernel
theorem dX10_horseTells_104 : decode cX10_horseTells 104 = .ok (.iload_n 3, 1) := by decide +kernel
theorem dX10_horseTells_105 : decode cX10_horseTells 105 = .ok (.iaload, 1) := by decide +kernel
theorem dX10_horseTells_106 : decode cX10_horseTells 106 = .ok (.ireturn, 1) := by decide +kernel
theorem dX10_horseTells_107 : decode cX10_horseTells 107 = .ok (.aload_n 0, 1) := by decide +kernel
theorem dX10_horseTells_108 : decode cX10_horseTells 108 = .ok (.getfield 25, 3) := by decide +kernel
theorem dX10_horseTells_111 : decode cX10_horseTells 111 = .ok (.iload_n 3, 1) := by decide +kernel
theorem dX10_horseTells_112 : decode cX10_horseTells 112 = .ok (.iaload, 1) := by decide +kernel
theorem dX10_horseTells_113 : decode cX10_horseTells 113 = .ok (.ireturn, 1) := by decide +kernel
set_option maxRecDepth 20000 in
theorem ggX10_shed_X10_in : GoodIn wsX10_shed wsX10_in := goodIn_r _ [6] (by decide +kernel) (by decide +kernel)
set_option maxRecDepth 20000 in
theorem gX10_shed_X10_in : GoodIn wsX10_shed (va_wsS RX10 95 yX10_in wsX10_in) := goodIn_app (goodIn_of _ (by decide +kernel)) ggX10_shed_X10_in
theorem dX10_shed_0 : decode cX10_shed 0 = .ok (.iload_n 1, 1) := by decide +kernel
theorem dX10_shed_1 : decode cX10_shed 1 = .ok (.iconst 0, 1) := by decide +kernel
theorem dX10_shed_2 : decode cX10_shed 2 = .ok (.iconst 5, 1) := by decide +kernel
theorem dX10_shed_3 : decode cX10_shed 3 = .ok (.invokestatic 95, 3) := by decide +kernel
theorem dX10_shed_6 : decode cX10_shed 6 = .ok (.ifCond .ne 8, 3) := by decide +kernel
theorem dX10_shed_9 : decode cX10_shed 9 = .ok (.ldc 99, 2) := by decide +kernel
theorem dX10_shed_11 : decode cX10_shed 11 = .ok (.goto 32, 3) := by decide +kernel
theorem dX10_shed_14 : decode cX10_shed 14 = .ok (.aload_n 0, 1) := by decide +kernel
theorem dX10_shed_15 : decode cX10_shed 15 = .ok (.getfield 37, 3) := by decide +kernel
theorem dX10_shed_18 : decode cX10_shed 18 = .ok (.iload_n 1, 1) := by decide +kernel
theorem dX10_shed_19 : decode cX10_shed 19 = .ok (.iaload, 1) := by decide +kernel
theorem dX10_shed_20 : decode cX10_shed 20 = .ok (.ifCond .ge 7, 3) := by decide +kernel
theorem dX10_shed_23 : decode cX10_shed 23 = .ok (.iconst 0, 1) := by decide +kernel
theorem dX10_shed_24 : decode cX10_shed 24 = .ok (.goto 19, 3) := by decide +kernel
theorem dX10_shed_27 : decode cX10_shed 27 = .ok (.aload_n 0, 1) := by decide +kernel
theorem dX10_shed_28 : decode cX10_shed 28 = .ok (.getfield 37, 3) := by decide +kernel
theorem dX10_shed_31 : decode cX10_shed 31 = .ok (.iload_n 1, 1) := by decide +kernel
theorem dX10_shed_32 : decode cX10_shed 32 = .ok (.iaload, 1) := by decide +kernel
theorem dX10_shed_33 : decode cX10_shed 33 = .ok (.bipush 100, 2) := by decide +kernel
theorem dX10_shed_35 : decode cX10_shed 35 = .ok (.if_icmp .ge 7, 3) := by decide +kernel
theorem dX10_shed_38 : decode cX10_shed 38 = .ok (.iconst 1, 1) := by decide +kernel
theorem dX10_shed_39 : decode cX10_shed 39 = .ok (.goto 4, 3) := by decide +kernel
theorem dX10_shed_42 : decode cX10_shed 42 = .ok (.iconst 2, 1) := by decide +kernel
theorem dX10_shed_43 : decode cX10_shed 43 = .ok (.ireturn, 1) := by decide +kernel
set_option maxRecDepth 20000 in
theorem ggX10_same_X10_in : GoodIn wsX10_same wsX10_in := goodIn_r _ [6] (by decide +kernel) (by decide +kernel)
set_option maxRecDepth 20000 in
theorem gX10_same_X10_in : GoodIn wsX10_same (va_wsS RX10 95 yX10_in wsX10_in) := goodIn_app (goodIn_of _ (by decide +kernel)) ggX10_same_X10_in
theorem dX10_same_0 : decode cX10_same 0 = .ok (.iload_n 1, 1) := by decide +kernel
theorem dX10_same_1 : decode cX10_same 1 = .ok (.iconst 0, 1) := by decide +kernel
theorem dX10_same_2 : decode cX10_same 2 = .ok (.bipush 9, 2) := by decide +kernel
theorem dX10_same_4 : decode cX10_same 4 = .ok (.invokestatic 95, 3) := by decide +kernel
theorem dX10_same_7 : decode cX10_same 7 = .ok (.ifCond .eq 13, 3) := by decide +kernel
theorem dX10_same_10 : decode cX10_same 10 = .ok (.iload_n 2, 1) := by decide +kernel
theorem dX10_same_11 : decode cX10_same 11 = .ok (.iconst 0, 1) := by decide +kernel
theorem dX10_same_12 : decode cX10_same 12 = .ok (.bipush 9, 2) := by decide +kernel
theorem dX10_same_14 : decode cX10_same 14 = .ok (.invokestatic 95, 3) := by decide +kernel
theorem dX10_same_17 : decode cX10_same 17 = .ok (.ifCond .ne 8, 3) := by decide +kernel
theorem dX10_same_20 : decode cX10_same 20 = .ok (.ldc 99, 2) := by decide +kernel
theorem dX10_same_22 : decode cX10_same 22 = .ok (.goto 23, 3) := by decide +kernel
theorem dX10_same_25 : decode cX10_same 25 = .ok (.aload_n 0, 1) := by decide +kernel
theorem dX10_same_26 : decode cX10_same 26 = .ok (.getfield 34, 3) := by decide +kernel
theorem dX10_same_29 : decode cX10_same 29 = .ok (.iload_n 1, 1) := by decide +kernel
theorem dX10_same_30 : decode cX10_same 30 = .ok (.iaload, 1) := by decide +kernel
theorem dX10_same_31 : decode cX10_same 31 = .ok (.aload_n 0, 1) := by decide +kernel
theorem dX10_same_32 : decode cX10_same 32 = .ok (.getfield 34, 3) := by decide +kernel
theorem dX10_same_35 : decode cX10_same 35 = .ok (.iload_n 2, 1) := by decide +kernel
theorem dX10_same_36 : decode cX10_same 36 = .ok (.iaload, 1) := by decide +kernel
theorem dX10_same_37 : decode cX10_same 37 = .ok (.if_icmp .ne 7, 3) := by decide +kernel
theorem dX10_same_40 : decode cX10_same 40 = .ok (.iconst 1, 1) := by decide +kernel
theorem dX10_same_41 : decode cX10_same 41 = .ok (.goto 4, 3) := by decide +kernel
theorem dX10_same_44 : decode cX10_same 44 = .ok (.iconst 0, 1) := by decide +kernel
theorem dX10_same_45 : decode cX10_same 45 = .ok (.ireturn, 1) := by decide +kernel
set_option maxRecDepth 20000 in
theorem ggX10_count_X10_in : GoodIn wsX10_count wsX10_in := goodIn_r _ [11] (by decide +kernel) (by decide +kernel)
set_option maxRecDepth 20000 in
theorem gX10_count_X10_in : GoodIn wsX10_count (va_wsS RX10 95 yX10_in wsX10_in) := goodIn_app (goodIn_of _ (by decide +kernel)) ggX10_count_X10_in
theorem dX10_count_0 : decode cX10_count 0 = .ok (.iload_n 1, 1) := by decide +kernel
theorem dX10_count_1 : decode cX10_count 1 = .ok (.tableswitch 60 0 4 #[35, 40, 45, 50, 55], 35) := by decide +kernel
theorem dX10_count_36 : decode cX10_count 36 = .ok (.aload_n 0, 1) := by decide +kernel
theorem dX10_count_37 : decode cX10_count 37 = .ok (.getfield 100, 3) := by decide +kernel
theorem dX10_count_40 : decode cX10_count 40 = .ok (.ireturn, 1) := by decide +kernel
theorem dX10_count_41 : decode cX10_count 41 = .ok (.aload_n 0, 1) := by decide +kernel
theorem dX10_count_42 : decode cX10_count 42 = .ok (.getfield 105, 3) := by decide +kernel
theorem dX10_count_45 : decode cX10_count 45 = .ok (.ireturn, 1) := by decide +kernel
theorem dX10_count_46 : decode cX10_count 46 = .ok (.aload_n 0, 1) := by decide +kernel
theorem dX10_count_47 : decode cX10_count 47 = .ok (.getfield 112, 3) := by decide +kernel
theorem dX10_count_50 : decode cX10_count 50 = .ok (.ireturn, 1) := by decide +kernel
theorem dX10_count_51 : decode cX10_count 51 = .ok (.aload_n 0, 1) := by decide +kernel
theorem dX10_count_52 : decode cX10_count 52 = .ok (.getfield 164, 3) := by decide +kernel
theorem dX10_count_55 : decode cX10_count 55 = .ok (.ireturn, 1) := by decide +kernel
theorem dX10_count_56 : decode cX10_count 56 = .ok (.aload_n 0, 1) := by decide +kernel
theorem dX10_count_57 : decode cX10_count 57 = .ok (.getfield 167, 3) := by decide +kernel
theorem dX10_count_60 : decode cX10_count 60 = .ok (.ireturn, 1) := by decide +kernel
theorem dX10_count_61 : decode cX10_count 61 = .ok (.iload_n 1, 1) := by decide +kernel
theorem dX10_count_62 : decode cX10_count 62 = .ok (.bipush 6, 2) := by decide +kernel
theorem dX10_count_64 : decode cX10_count 64 = .ok (.bipush 11, 2) := by decide +kernel
theorem dX10_count_66 : decode cX10_count 66 = .ok (.invokestatic 95, 3) := by decide +kernel
theorem dX10_count_69 : decode cX10_count 69 = .ok (.ifCond .eq 14, 3) := by decide +kernel
theorem dX10_count_72 : decode cX10_count 72 = .ok (.aload_n 0, 1) := by decide +kernel
theorem dX10_count_73 : decode cX10_count 73 = .ok (.getfield 92, 3) := by decide +kernel
theorem dX10_count_76 : decode cX10_count 76 = .ok (.iload_n 1, 1) := by decide +kernel
theorem dX10_count_77 : decode cX10_count 77 = .ok (.iconst 5, 1) := by decide +kernel
theorem dX10_count_78 : decode cX10_count 78 = .ok (.isub, 1) := by decide +kernel
theorem dX10_count_79 : decode cX10_count 79 = .ok (.iaload, 1) := by decide +kernel
theorem dX10_count_80 : decode cX10_count 80 = .ok (.goto 5, 3) := by decide +kernel
theorem dX10_count_83 : decode cX10_count 83 = .ok (.ldc 170, 2) := by decide +kernel
theorem dX10_count_85 : decode cX10_count 85 = .ok (.ireturn, 1) := by decide +kernel
theorem dJ9_floorMod_7cf53_0 : decode cJ9_floorMod_7cf53 0 = .ok (.iload_n 0, 1) := by decide +kernel
theorem dJ9_floorMod_7cf53_1 : decode cJ9_floorMod_7cf53 1 = .ok (.iload_n 1, 1) := by decide +kernel
theorem dJ9_floorMod_7cf53_2 : decode cJ9_floorMod_7cf53 2 = .ok (.irem, 1) := by decide +kernel
theorem dJ9_floorMod_7cf53_3 : decode cJ9_floorMod_7cf53 3 = .ok (.istore_n 2, 1) := by decide +kernel
theorem dJ9_floorMod_7cf53_4 : decode cJ9_floorMod_7cf53 4 = .ok (.iload_n 0, 1) := by decide +kernel
theorem dJ9_floorMod_7cf53_5 : decode cJ9_floorMod_7cf53 5 = .ok (.iload_n 1, 1) := by decide +kernel
theorem dJ9_floorMod_7cf53_6 : decode cJ9_floorMod_7cf53 6 = .ok (.ixor, 1) := by decide +kernel
theorem dJ9_floorMod_7cf53_7 : decode cJ9_floorMod_7cf53 7 = .ok (.ifCond .ge 11, 3) := by decide +kernel
theorem dJ9_floorMod_7cf53_10 : decode cJ9_floorMod_7cf53 10 = .ok (.iload_n 2, 1) := by decide +kernel
theorem dJ9_floorMod_7cf53_11 : decode cJ9_floorMod_7cf53 11 = .ok (.ifCond .eq 7, 3) := by decide +kernel
theorem dJ9_floorMod_7cf53_14 : decode cJ9_floorMod_7cf53 14 = .ok (.iload_n 2, 1) := by decide +kernel
theorem dJ9_floorMod_7cf53_15 : decode cJ9_floorMod_7cf53 15 = .ok (.iload_n 1, 1) := by decide +kernel
theorem dJ9_floorMod_7cf53_16 : decode cJ9_floorMod_7cf53 16 = .ok (.iadd, 1) := by decide +kernel
theorem dJ9_floorMod_7cf53_17 : decode cJ9_floorMod_7cf53 17 = .ok (.ireturn, 1) := by decide +kernel
theorem dJ9_floorMod_7cf53_18 : decode cJ9_floorMod_7cf53 18 = .ok (.iload_n 2, 1) := by decide +kernel
theorem dJ9_floorMod_7cf53_19 : decode cJ9_floorMod_7cf53 19 = .ok (.ireturn, 1) := by decide +kernel
theorem dJ9_min_7cf53_0 : decode cJ9_min_7cf53 0 = .ok (.iload_n 0, 1) := by decide +kernel
theorem dJ9_min_7cf53_1 : decode cJ9_min_7cf53 1 = .ok (.iload_n 1, 1) := by decide +kernel
theorem dJ9_min_7cf53_2 : decode cJ9_min_7cf53 2 = .ok (.if_icmp .gt 7, 3) := by decide +kernel
theorem dJ9_min_7cf53_5 : decode cJ9_min_7cf53 5 = .ok (.iload_n 0, 1) := by decide +kernel
theorem dJ9_min_7cf53_6 : decode cJ9_min_7cf53 6 = .ok (.goto 4, 3) := by decide +kernel
theorem dJ9_min_7cf53_9 : decode cJ9_min_7cf53 9 = .ok (.iload_n 1, 1) := by decide +kernel
theorem dJ9_min_7cf53_10 : decode cJ9_min_7cf53 10 = .ok (.ireturn, 1) := by decide +kernel
theorem dJ7_fill_53178_0 : decode cJ7_fill_53178 0 = .ok (.iconst 0, 1) := by decide +kernel
theorem dJ7_fill_53178_1 : decode cJ7_fill_53178 1 = .ok (.istore_n 2, 1) := by decide +kernel
theorem dJ7_fill_53178_2 : decode cJ7_fill_53178 2 = .ok (.aload_n 0, 1) := by decide +kernel
theorem dJ7_fill_53178_3 : decode cJ7_fill_53178 3 = .ok (.arraylength, 1) := by decide +kernel
theorem dJ7_fill_53178_4 : decode cJ7_fill_53178 4 = .ok (.istore_n 3, 1) := by decide +kernel
theorem dJ7_fill_53178_5 : decode cJ7_fill_53178 5 = .ok (.iload_n 2, 1) := by decide +kernel
theorem dJ7_fill_53178_6 : decode cJ7_fill_53178 6 = .ok (.iload_n 3, 1) := by decide +kernel
theorem dJ7_fill_53178_7 : decode cJ7_fill_53178 7 = .ok (.if_icmp .ge 13, 3) := by decide +kernel
theorem dJ7_fill_53178_10 : decode cJ7_fill_53178 10 = .ok (.aload_n 0, 1) := by decide +kernel
theorem dJ7_fill_53178_11 : decode cJ7_fill_53178 11 = .ok (.iload_n 2, 1) := by decide +kernel
theorem dJ7_fill_53178_12 : decode cJ7_fill_53178 12 = .ok (.iload_n 1, 1) := by decide +kernel
theorem dJ7_fill_53178_13 : decode cJ7_fill_53178 13 = .ok (.iastore, 1) := by decide +kernel
theorem dJ7_fill_53178_14 : decode cJ7_fill_53178 14 = .ok (.iinc 2 1, 3) := by decide +kernel
theorem dJ7_fill_53178_17 : decode cJ7_fill_53178 17 = .ok (.goto (-12), 3) := by decide +kernel
theorem dJ7_fill_53178_20 : decode cJ7_fill_53178 20 = .ok (.return_, 1) := by decide +kernel
set_option maxRecDepth 20000 in
theorem ggL_law_X9_init : GoodIn wsL_law wsX9_init := goodIn_r _ [8, 9, 10, 11, 12, 13, 14, 15, 16, 17, 18, 19, 20, 21, 22, 23, 24, 25, 26, 27, 28, 29, 30, 31, 32, 33, 34, 35, 36, 37, 38, 39, 40, 41, 42, 43, 44, 45, 46, 47, 48, 49, 50, 51, 578, 579, 580, 581, 582, 583, 584, 585, 586, 587, 588, 589, 590, 591, 592, 593, 594, 630, 631, 632, 633, 634, 635, 636, 637, 638, 639, 640, 641] (by decide +kernel) (by decide +kernel)
set_option maxRecDepth 20000 in
theorem gL_law_X9_init : GoodIn wsL_law (wsX9_init) := ggL_law_X9_init
set_option maxRecDepth 20000 in
theorem ggL_law_X10_init : GoodIn wsL_law wsX10_init := goodIn_r _ [54, 55, 10, 11, 25, 56, 57, 58, 59, 60, 61, 62, 63, 64, 65, 66, 67, 68, 69, 70, 71, 72, 50, 73, 74, 75, 76, 77, 78, 79, 80, 81, 82, 83, 595, 596, 597, 598, 599, 600, 601, 602, 603, 604, 605, 606, 607, 608, 609, 610, 611, 612, 613, 614, 615, 616, 617, 618, 619, 620, 621, 622, 623, 624, 625, 626, 627, 628, 629] (by decide +kernel) (by decide +kernel)
set_option maxRecDepth 20000 in
theorem gL_law_X10_init : GoodIn wsL_law (wsX10_init) := ggL_law_X10_init
set_option maxRecDepth 20000 in
theorem ggL_law_X9_horse : GoodIn wsL_law wsX9_horse := goodIn_r _ [87, 88, 89, 90, 13, 91, 92, 2, 93, 94, 95, 96, 97, 98, 99, 100, 101, 102, 12, 103, 104, 105, 106, 107, 108, 109, 110, 111, 112, 113, 114, 115, 10, 11, 116, 117, 118, 119, 120, 578, 579, 580, 581, 582, 583, 584, 585, 586, 587, 588, 589, 590, 591, 592, 593, 594, 642, 643, 644, 645, 646, 647, 648, 649, 650, 651, 652, 653, 654, 655, 656] (by decide +kernel) (by decide +kernel)
set_option maxRecDepth 20000 in
theorem gL_law_X9_horse : GoodIn wsL_law (wsV RL 13 RX9 yX9_horse wsX9_horse) := goodIn_app (goodIn_of _ (by decide +kernel)) ggL_law_X9_horse
set_option maxRecDepth 20000 in
theorem ggL_law_X10_horse : GoodIn wsL_law wsX10_horse := goodIn_r _ [124, 125, 126, 127, 56, 57, 64, 128, 129, 5, 130, 595, 596, 597, 598, 599, 600, 601, 602, 603, 604, 605, 606, 607, 608, 609, 610, 611, 612, 613, 614, 615, 616, 617, 618, 619, 620, 621, 622, 623, 624, 625, 626, 627, 628, 629] (by decide +kernel) (by decide +kernel)
set_option maxRecDepth 20000 in
theorem gL_law_X10_horse : GoodIn wsL_law (wsV RL 17 RX10 yX10_horse wsX10_horse) := goodIn_app (goodIn_of _ (by decide +kernel)) ggL_law_X10_horse
set_option maxRecDepth 20000 in
theorem ggL_law_X9_wagon : GoodIn wsL_law wsX9_wagon := goodIn_r _ [134, 88, 135, 90, 15, 136, 137, 138, 91, 92, 2, 93, 139, 140, 141, 142, 112, 113, 114, 115, 10, 11, 578, 579, 580, 581, 582, 583, 584, 585, 586, 587, 588, 589, 590, 591, 592, 593, 594, 657, 658] (by decide +kernel) (by decide +kernel)
set_option maxRecDepth 20000 in
theorem gL_law_X9_wagon : GoodIn wsL_law (wsV RL 18 RX9 yX9_wagon wsX9_wagon) := goodIn_app (goodIn_of _ (by decide +kernel)) ggL_law_X9_wagon
set_option maxRecDepth 20000 in
theorem ggL_law_X10_wagon : GoodIn wsL_law wsX10_wagon := goodIn_r _ [146, 125, 147, 127, 62, 65, 128, 129, 5, 130, 595, 596, 597, 598, 599, 600, 601, 602, 603, 604, 605, 606, 607, 608, 609, 610, 611, 612, 613, 614, 615, 616, 617, 618, 619, 620, 621, 622, 623, 624, 625, 626, 627, 628, 629] (by decide +kernel) (by decide +kernel)
set_option maxRecDepth 20000 in
theorem gL_law_X10_wagon : GoodIn wsL_law (wsV RL 22 RX10 yX10_wagon wsX10_wagon) := goodIn_app (goodIn_of _ (by decide +kernel)) ggL_law_X10_wagon
set_option maxRecDepth 20000 in
theorem ggL_law_X9_lead : GoodIn wsL_law wsX9_lead := goodIn_r _ [151, 88, 15, 13, 91, 92, 2, 93, 152, 153, 154, 578, 579, 580, 581, 582, 583, 584, 585, 586, 587, 588, 589, 590, 591, 592, 593, 594] (by decide +kernel) (by decide +kernel)
set_option maxRecDepth 20000 in
theorem gL_law_X9_lead : GoodIn wsL_law (wsV RL 23 RX9 yX9_lead wsX9_lead) := goodIn_app (goodIn_of _ (by decide +kernel)) ggL_law_X9_lead
set_option maxRecDepth 20000 in
theorem ggL_law_X10_lead : GoodIn wsL_law wsX10_lead := goodIn_r _ [158, 125, 65, 64, 128, 129, 5, 130, 595, 596, 597, 598, 599, 600, 601, 602, 603, 604, 605, 606, 607, 608, 609, 610, 611, 612, 613, 614, 615, 616, 617, 618, 619, 620, 621, 622, 623, 624, 625, 626, 627, 628, 629] (by decide +kernel) (by decide +kernel)
set_option maxRecDepth 20000 in
theorem gL_law_X10_lead : GoodIn wsL_law (wsV RL 26 RX10 yX10_lead wsX10_lead) := goodIn_app (goodIn_of _ (by decide +kernel)) ggL_law_X10_lead
set_option maxRecDepth 20000 in
theorem ggL_law_X9_empty : GoodIn wsL_law wsX9_empty := goodIn_r _ [162, 163, 88, 91, 92, 2, 93, 164, 165, 166, 167, 13, 15, 17, 168, 19, 169, 21, 170, 23, 171, 172, 173, 174, 152, 153, 154, 578, 579, 580, 581, 582, 583, 584, 585, 586, 587, 588, 589, 590, 591, 592, 593, 594, 630, 631, 632, 633, 634, 635, 636, 637, 638, 639, 640, 641] (by decide +kernel) (by decide +kernel)
set_option maxRecDepth 20000 in
theorem gL_law_X9_empty : GoodIn wsL_law (wsV RL 27 RX9 yX9_empty wsX9_empty) := goodIn_app (goodIn_of _ (by decide +kernel)) ggL_law_X9_empty
set_option maxRecDepth 20000 in
theorem ggL_law_X10_empty : GoodIn wsL_law wsX10_empty := goodIn_r _ [178, 125, 64, 65, 66, 69, 71, 75, 128, 129, 5, 130, 179, 180, 181, 182, 595, 596, 597, 598, 599, 600, 601, 602, 603, 604, 605, 606, 607, 608, 609, 610, 611, 612, 613, 614, 615, 616, 617, 618, 619, 620, 621, 622, 623, 624, 625, 626, 627, 628, 629] (by decide +kernel) (by decide +kernel)
set_option maxRecDepth 20000 in
theorem gL_law_X10_empty : GoodIn wsL_law (wsV RL 30 RX10 yX10_empty wsX10_empty) := goodIn_app (goodIn_of _ (by decide +kernel)) ggL_law_X10_empty
set_option maxRecDepth 20000 in
theorem ggL_law_X9_tear : GoodIn wsL_law wsX9_tear := goodIn_r _ [186, 88, 21, 170, 187, 188, 91, 92, 2, 93, 152, 153, 154, 578, 579, 580, 581, 582, 583, 584, 585, 586, 587, 588, 589, 590, 591, 592, 593, 594, 637, 638, 639, 640, 641] (by decide +kernel) (by decide +kernel)
set_option maxRecDepth 20000 in
theorem gL_law_X9_tear : GoodIn wsL_law (wsV RL 31 RX9 yX9_tear wsX9_tear) := goodIn_app (goodIn_of _ (by decide +kernel)) ggL_law_X9_tear
set_option maxRecDepth 20000 in
theorem ggL_law_X10_tear : GoodIn wsL_law wsX10_tear := goodIn_r _ [192, 71, 125, 73, 128, 129, 5, 130, 595, 596, 597, 598, 599, 600, 601, 602, 603, 604, 605, 606, 607, 608, 609, 610, 611, 612, 613, 614, 615, 616, 617, 618, 619, 620, 621, 622, 623, 624, 625, 626, 627, 628, 629] (by decide +kernel) (by decide +kernel)
set_option maxRecDepth 20000 in
theorem gL_law_X10_tear : GoodIn wsL_law (wsV RL 34 RX10 yX10_tear wsX10_tear) := goodIn_app (goodIn_of _ (by decide +kernel)) ggL_law_X10_tear
set_option maxRecDepth 20000 in
theorem ggL_law_X9_hang : GoodIn wsL_law wsX9_hang := goodIn_r _ [196, 88, 197, 90, 23, 22, 198, 199, 91, 92, 2, 93, 200, 201, 202, 203, 10, 11, 204, 578, 579, 580, 581, 582, 583, 584, 585, 586, 587, 588, 589, 590, 591, 592, 593, 594, 659] (by decide +kernel) (by decide +kernel)
set_option maxRecDepth 20000 in
theorem gL_law_X9_hang : GoodIn wsL_law (wsV RL 35 RX9 yX9_hang wsX9_hang) := goodIn_app (goodIn_of _ (by decide +kernel)) ggL_law_X9_hang
set_option maxRecDepth 20000 in
theorem ggL_law_X10_hang : GoodIn wsL_law wsX10_hang := goodIn_r _ [208, 125, 209, 127, 75, 76, 128, 129, 5, 130, 595, 596, 597, 598, 599, 600, 601, 602, 603, 604, 605, 606, 607, 608, 609, 610, 611, 612, 613, 614, 615, 616, 617, 618, 619, 620, 621, 622, 623, 624, 625, 626, 627, 628, 629] (by decide +kernel) (by decide +kernel)
set_option maxRecDepth 20000 in
theorem gL_law_X10_hang : GoodIn wsL_law (wsV RL 38 RX10 yX10_hang wsX10_hang) := goodIn_app (goodIn_of _ (by decide +kernel)) ggL_law_X10_hang
set_option maxRecDepth 20000 in
theorem ggL_law_X9_act : GoodIn wsL_law wsX9_act := goodIn_r _ [213, 88, 91, 92, 2, 93, 214, 215, 216, 217, 29, 218, 219, 220, 221, 222, 223, 224, 225, 226, 227, 228, 229, 230, 13, 231, 232, 233, 234, 235, 236, 237, 238, 239, 240, 241, 242, 243, 244, 245, 246, 247, 248, 249, 250, 251, 252, 253, 254, 255, 256, 257, 258, 99, 259, 260, 261, 262, 263, 264, 265, 104, 266, 267, 268, 102, 269, 270, 271, 272, 273, 274, 275, 276, 277, 278, 279, 280, 281, 282, 15, 283, 284, 285, 286, 287, 288, 289, 290, 291, 292, 293, 294, 295, 296, 297, 298, 299, 300, 301, 302, 138, 303, 304, 142, 305, 306, 307, 308, 309, 310, 311, 312, 313, 314, 315, 316, 317, 318, 319, 320, 321, 322, 323, 324, 325, 326, 17, 327, 328, 329, 31, 330, 331, 332, 333, 40, 334, 335, 336, 337, 168, 338, 339, 340, 341, 342, 343, 344, 345, 346, 347, 348, 349, 350, 351, 352, 353, 354, 355, 356, 357, 358, 359, 360, 152, 153, 154, 361, 362, 363, 364, 365, 366, 367, 368, 369, 370, 371, 372, 373, 374, 375, 376, 377, 378, 379, 380, 381, 382, 383, 19, 384, 385, 386, 33, 387, 388, 389, 44, 390, 391, 392, 393, 394, 395, 396, 397, 169, 398, 399, 400, 401, 402, 403, 404, 405, 406, 407, 408, 409, 410, 411, 412, 413, 414, 415, 21, 416, 417, 418, 35, 419, 420, 421, 422, 51, 49, 423, 424, 425, 426, 427, 170, 187, 188, 428, 429, 430, 431, 432, 433, 23, 434, 578, 579, 580, 581, 582, 583, 584, 585, 586, 587, 588, 589, 590, 591, 592, 593, 594, 642, 643, 644, 645, 646, 652, 653, 654, 655, 656, 647, 648, 649, 650, 651, 657, 658, 630, 631, 632, 633, 634, 635, 636, 637, 638, 639, 640, 641, 659] (by decide +kernel) (by decide +kernel)
set_option maxRecDepth 20000 in
theorem gL_law_X9_act : GoodIn wsL_law (wsV RL 39 RX9 yX9_act wsX9_act) := goodIn_app (goodIn_of _ (by decide +kernel)) ggL_law_X9_act
set_option maxRecDepth 20000 in
theorem ggL_law_X10_act : GoodIn wsL_law wsX10_act := goodIn_r _ [438, 125, 128, 129, 5, 130, 439, 440, 441, 442, 443, 444, 83, 445, 446, 447, 448, 64, 65, 57, 75, 76, 449, 450, 451, 452, 453, 454, 455, 56, 58, 59, 456, 457, 458, 459, 460, 461, 462, 463, 60, 464, 465, 466, 467, 63, 62, 61, 468, 469, 470, 471, 66, 67, 68, 472, 473, 474, 475, 476, 477, 478, 479, 480, 481, 482, 483, 484, 485, 486, 69, 70, 487, 488, 489, 490, 71, 72, 73, 74, 595, 596, 597, 598, 599, 600, 601, 602, 603, 604, 605, 606, 607, 608, 609, 610, 611, 612, 613, 614, 615, 616, 617, 618, 619, 620, 621, 622, 623, 624, 625, 626, 627, 628, 629] (by decide +kernel) (by decide +kernel)
set_option maxRecDepth 20000 in
theorem gL_law_X10_act : GoodIn wsL_law (wsV RL 43 RX10 yX10_act wsX10_act) := goodIn_app (goodIn_of _ (by decide +kernel)) ggL_law_X10_act
set_option maxRecDepth 20000 in
theorem ggL_law_X9_came : GoodIn wsL_law wsX9_came := goodIn_r _ [494, 239, 578, 579, 580, 581, 582, 583, 584, 585, 586, 587, 588, 589, 590, 591, 592, 593, 594] (by decide +kernel) (by decide +kernel)
set_option maxRecDepth 20000 in
theorem gL_law_X9_came : GoodIn wsL_law (wsV RL 44 RX9 yX9_came wsX9_came) := goodIn_app (goodIn_of _ (by decide +kernel)) ggL_law_X9_came
set_option maxRecDepth 20000 in
theorem ggL_law_X10_came : GoodIn wsL_law wsX10_came := goodIn_r _ [498, 444, 595, 596, 597, 598, 599, 600, 601, 602, 603, 604, 605, 606, 607, 608, 609, 610, 611, 612, 613, 614, 615, 616, 617, 618, 619, 620, 621, 622, 623, 624, 625, 626, 627, 628, 629] (by decide +kernel) (by decide +kernel)
set_option maxRecDepth 20000 in
theorem gL_law_X10_came : GoodIn wsL_law (wsV RL 48 RX10 yX10_came wsX10_came) := goodIn_app (goodIn_of _ (by decide +kernel)) ggL_law_X10_came
set_option maxRecDepth 20000 in
theorem ggL_law_X9_task : GoodIn wsL_law wsX9_task := goodIn_r _ [502, 88, 503, 90, 26, 91, 92, 2, 93, 578, 579, 580, 581, 582, 583, 584, 585, 586, 587, 588, 589, 590, 591, 592, 593, 594] (by decide +kernel) (by decide +kernel)
set_option maxRecDepth 20000 in
theorem gL_law_X9_task : GoodIn wsL_law (wsV RL 49 RX9 yX9_task wsX9_task) := goodIn_app (goodIn_of _ (by decide +kernel)) ggL_law_X9_task
