set_option maxRecDepth 20000 in
theorem gX1_init_X2_init : GoodIn wsX1_init (wsX2_init) := ggX1_init_X2_init
theorem dX1_init_0 : decode cX1_init 0 = .ok (.aload_n 0, 1) := by decide +kernel
theorem dX1_init_1 : decode cX1_init 1 = .ok (.iload_n 1, 1) := by decide +kernel
theorem dX1_init_2 : decode cX1_init 2 = .ok (.invokespecial 3, 3) := by decide +kernel
theorem dX1_init_5 : decode cX1_init 5 = .ok (.return_, 1) := by decide +kernel
theorem dX1_kindNumber_0 : decode cX1_kindNumber 0 = .ok (.iconst 1, 1) := by decide +kernel
theorem dX1_kindNumber_1 : decode cX1_kindNumber 1 = .ok (.ireturn, 1) := by decide +kernel
theorem dX1_groom_0 : decode cX1_groom 0 = .ok (.aload_n 0, 1) := by decide +kernel
theorem dX1_groom_1 : decode cX1_groom 1 = .ok (.dup, 1) := by decide +kernel
theorem dX1_groom_2 : decode cX1_groom 2 = .ok (.getfield 9, 3) := by decide +kernel
theorem dX1_groom_5 : decode cX1_groom 5 = .ok (.iconst 2, 1) := by decide +kernel
theorem dX1_groom_6 : decode cX1_groom 6 = .ok (.iadd, 1) := by decide +kernel
theorem dX1_groom_7 : decode cX1_groom 7 = .ok (.putfield 9, 3) := by decide +kernel
theorem dX1_groom_10 : decode cX1_groom 10 = .ok (.aload_n 0, 1) := by decide +kernel
theorem dX1_groom_11 : decode cX1_groom 11 = .ok (.getfield 9, 3) := by decide +kernel
theorem dX1_groom_14 : decode cX1_groom 14 = .ok (.ireturn, 1) := by decide +kernel
theorem dX1_workFor_0 : decode cX1_workFor 0 = .ok (.aload_n 0, 1) := by decide +kernel
theorem dX1_workFor_1 : decode cX1_workFor 1 = .ok (.dup, 1) := by decide +kernel
theorem dX1_workFor_2 : decode cX1_workFor 2 = .ok (.getfield 15, 3) := by decide +kernel
theorem dX1_workFor_5 : decode cX1_workFor 5 = .ok (.iconst 2, 1) := by decide +kernel
theorem dX1_workFor_6 : decode cX1_workFor 6 = .ok (.iload_n 1, 1) := by decide +kernel
theorem dX1_workFor_7 : decode cX1_workFor 7 = .ok (.imul, 1) := by decide +kernel
theorem dX1_workFor_8 : decode cX1_workFor 8 = .ok (.iadd, 1) := by decide +kernel
theorem dX1_workFor_9 : decode cX1_workFor 9 = .ok (.putfield 15, 3) := by decide +kernel
theorem dX1_workFor_12 : decode cX1_workFor 12 = .ok (.aload_n 0, 1) := by decide +kernel
theorem dX1_workFor_13 : decode cX1_workFor 13 = .ok (.getfield 15, 3) := by decide +kernel
theorem dX1_workFor_16 : decode cX1_workFor 16 = .ok (.ireturn, 1) := by decide +kernel
set_option maxRecDepth 20000 in
theorem ggX2_init_X8_init : GoodIn wsX2_init wsX8_init := goodIn_r _ [4, 5, 6, 7] (by decide +kernel) (by decide +kernel)
set_option maxRecDepth 20000 in
theorem gX2_init_X8_init_n3 : GoodIn wsX2_init (wsX8_init) := ggX2_init_X8_init
theorem dX2_init_0 : decode cX2_init 0 = .ok (.aload_n 0, 1) := by decide +kernel
theorem dX2_init_1 : decode cX2_init 1 = .ok (.invokespecial 3, 3) := by decide +kernel
theorem dX2_init_4 : decode cX2_init 4 = .ok (.aload_n 0, 1) := by decide +kernel
theorem dX2_init_5 : decode cX2_init 5 = .ok (.iload_n 1, 1) := by decide +kernel
theorem dX2_init_6 : decode cX2_init 6 = .ok (.putfield 9, 3) := by decide +kernel
theorem dX2_init_9 : decode cX2_init 9 = .ok (.return_, 1) := by decide +kernel
theorem dX2_kindNumber_0 : decode cX2_kindNumber 0 = .ok (.iconst 0, 1) := by decide +kernel
theorem dX2_kindNumber_1 : decode cX2_kindNumber 1 = .ok (.ireturn, 1) := by decide +kernel
theorem dX2_groom_0 : decode cX2_groom 0 = .ok (.aload_n 0, 1) := by decide +kernel
theorem dX2_groom_1 : decode cX2_groom 1 = .ok (.dup, 1) := by decide +kernel
theorem dX2_groom_2 : decode cX2_groom 2 = .ok (.getfield 15, 3) := by decide +kernel
theorem dX2_groom_5 : decode cX2_groom 5 = .ok (.iconst 1, 1) := by decide +kernel
theorem dX2_groom_6 : decode cX2_groom 6 = .ok (.iadd, 1) := by decide +kernel
theorem dX2_groom_7 : decode cX2_groom 7 = .ok (.putfield 15, 3) := by decide +kernel
theorem dX2_groom_10 : decode cX2_groom 10 = .ok (.aload_n 0, 1) := by decide +kernel
theorem dX2_groom_11 : decode cX2_groom 11 = .ok (.getfield 15, 3) := by decide +kernel
theorem dX2_groom_14 : decode cX2_groom 14 = .ok (.ireturn, 1) := by decide +kernel
theorem dX2_workFor_0 : decode cX2_workFor 0 = .ok (.aload_n 0, 1) := by decide +kernel
theorem dX2_workFor_1 : decode cX2_workFor 1 = .ok (.dup, 1) := by decide +kernel
theorem dX2_workFor_2 : decode cX2_workFor 2 = .ok (.getfield 18, 3) := by decide +kernel
theorem dX2_workFor_5 : decode cX2_workFor 5 = .ok (.iload_n 1, 1) := by decide +kernel
theorem dX2_workFor_6 : decode cX2_workFor 6 = .ok (.iadd, 1) := by decide +kernel
theorem dX2_workFor_7 : decode cX2_workFor 7 = .ok (.putfield 18, 3) := by decide +kernel
theorem dX2_workFor_10 : decode cX2_workFor 10 = .ok (.aload_n 0, 1) := by decide +kernel
theorem dX2_workFor_11 : decode cX2_workFor 11 = .ok (.getfield 18, 3) := by decide +kernel
theorem dX2_workFor_14 : decode cX2_workFor 14 = .ok (.ireturn, 1) := by decide +kernel
set_option maxRecDepth 20000 in
theorem ggX3_init_X1_init : GoodIn wsX3_init wsX1_init := goodIn_r _ [4, 5, 6, 7, 8, 9, 10, 11, 12, 13, 14, 15, 16, 17, 18, 19, 20, 21, 22, 23, 24, 25, 26, 27, 28, 29, 30] (by decide +kernel) (by decide +kernel)
set_option maxRecDepth 20000 in
theorem gX3_init_X1_init : GoodIn wsX3_init (wsX1_init) := ggX3_init_X1_init
theorem dX3_init_0 : decode cX3_init 0 = .ok (.aload_n 0, 1) := by decide +kernel
theorem dX3_init_1 : decode cX3_init 1 = .ok (.iload_n 1, 1) := by decide +kernel
theorem dX3_init_2 : decode cX3_init 2 = .ok (.invokespecial 3, 3) := by decide +kernel
theorem dX3_init_5 : decode cX3_init 5 = .ok (.return_, 1) := by decide +kernel
theorem dX3_kindNumber_0 : decode cX3_kindNumber 0 = .ok (.iconst 2, 1) := by decide +kernel
theorem dX3_kindNumber_1 : decode cX3_kindNumber 1 = .ok (.ireturn, 1) := by decide +kernel
set_option maxRecDepth 20000 in
theorem ggX3_groom_X1_groom : GoodIn wsX3_groom wsX1_groom := goodIn_r _ [8, 9, 10, 11, 12, 13, 14, 15, 16, 17, 18, 19, 20, 21, 22, 23, 24, 25] (by decide +kernel) (by decide +kernel)
set_option maxRecDepth 20000 in
theorem gX3_groom_X1_groom_s15 : GoodIn wsX3_groom (va_wsSU RX3 15 yX1_groom wsX1_groom) := goodIn_app (goodIn_of _ (by decide +kernel)) ggX3_groom_X1_groom
theorem dX3_groom_0 : decode cX3_groom 0 = .ok (.aload_n 0, 1) := by decide +kernel
theorem dX3_groom_1 : decode cX3_groom 1 = .ok (.iconst 0, 1) := by decide +kernel
theorem dX3_groom_2 : decode cX3_groom 2 = .ok (.putfield 9, 3) := by decide +kernel
theorem dX3_groom_5 : decode cX3_groom 5 = .ok (.aload_n 0, 1) := by decide +kernel
theorem dX3_groom_6 : decode cX3_groom 6 = .ok (.invokespecial 15, 3) := by decide +kernel
theorem dX3_groom_9 : decode cX3_groom 9 = .ok (.ireturn, 1) := by decide +kernel
set_option maxRecDepth 20000 in
theorem ggX3_workFor_X1_workFor : GoodIn wsX3_workFor wsX1_workFor := goodIn_r _ [8, 9, 10, 11, 12, 13, 14, 15, 16, 17, 18, 19, 20, 21, 22, 23, 24, 25] (by decide +kernel) (by decide +kernel)
set_option maxRecDepth 20000 in
theorem gX3_workFor_X1_workFor_s19 : GoodIn wsX3_workFor (va_wsSU RX3 19 yX1_workFor wsX1_workFor) := goodIn_app (goodIn_of _ (by decide +kernel)) ggX3_workFor_X1_workFor
theorem dX3_workFor_0 : decode cX3_workFor 0 = .ok (.aload_n 0, 1) := by decide +kernel
theorem dX3_workFor_1 : decode cX3_workFor 1 = .ok (.aload_n 0, 1) := by decide +kernel
theorem dX3_workFor_2 : decode cX3_workFor 2 = .ok (.iload_n 1, 1) := by decide +kernel
theorem dX3_workFor_3 : decode cX3_workFor 3 = .ok (.invokespecial 19, 3) := by decide +kernel
theorem dX3_workFor_6 : decode cX3_workFor 6 = .ok (.iconst 1, 1) := by decide +kernel
theorem dX3_workFor_7 : decode cX3_workFor 7 = .ok (.iadd, 1) := by decide +kernel
theorem dX3_workFor_8 : decode cX3_workFor 8 = .ok (.putfield 23, 3) := by decide +kernel
theorem dX3_workFor_11 : decode cX3_workFor 11 = .ok (.aload_n 0, 1) := by decide +kernel
theorem dX3_workFor_12 : decode cX3_workFor 12 = .ok (.getfield 23, 3) := by decide +kernel
theorem dX3_workFor_15 : decode cX3_workFor 15 = .ok (.ireturn, 1) := by decide +kernel
theorem dX4_init_0 : decode cX4_init 0 = .ok (.aload_n 0, 1) := by decide +kernel
theorem dX4_init_1 : decode cX4_init 1 = .ok (.invokespecial 3, 3) := by decide +kernel
theorem dX4_init_4 : decode cX4_init 4 = .ok (.aload_n 0, 1) := by decide +kernel
theorem dX4_init_5 : decode cX4_init 5 = .ok (.bipush 12, 2) := by decide +kernel
theorem dX4_init_7 : decode cX4_init 7 = .ok (.newarray .int, 2) := by decide +kernel
theorem dX4_init_9 : decode cX4_init 9 = .ok (.putfield 9, 3) := by decide +kernel
theorem dX4_init_12 : decode cX4_init 12 = .ok (.return_, 1) := by decide +kernel
set_option maxRecDepth 20000 in
theorem ggX4_open_J7_fill_53178 : GoodIn wsX4_open wsJ7_fill_53178 := goodIn_r _ [7] (by decide +kernel) (by decide +kernel)
set_option maxRecDepth 20000 in
theorem gX4_open_J7_fill_53178 : GoodIn wsX4_open (va_wsS RX4 23 yJ7_fill_53178 wsJ7_fill_53178) := goodIn_app (goodIn_of _ (by decide +kernel)) ggX4_open_J7_fill_53178
theorem dX4_open_0 : decode cX4_open 0 = .ok (.aload_n 0, 1) := by decide +kernel
theorem dX4_open_1 : decode cX4_open 1 = .ok (.iconst 1, 1) := by decide +kernel
theorem dX4_open_2 : decode cX4_open 2 = .ok (.putfield 15, 3) := by decide +kernel
theorem dX4_open_5 : decode cX4_open 5 = .ok (.aload_n 0, 1) := by decide +kernel
theorem dX4_open_6 : decode cX4_open 6 = .ok (.iload_n 1, 1) := by decide +kernel
theorem dX4_open_7 : decode cX4_open 7 = .ok (.putfield 19, 3) := by decide +kernel
theorem dX4_open_10 : decode cX4_open 10 = .ok (.aload_n 0, 1) := by decide +kernel
theorem dX4_open_11 : decode cX4_open 11 = .ok (.getfield 9, 3) := by decide +kernel
theorem dX4_open_14 : decode cX4_open 14 = .ok (.iconst 0, 1) := by decide +kernel
theorem dX4_open_15 : decode cX4_open 15 = .ok (.invokestatic 23, 3) := by decide +kernel
theorem dX4_open_18 : decode cX4_open 18 = .ok (.return_, 1) := by decide +kernel
theorem dX4_sum_0 : decode cX4_sum 0 = .ok (.iconst 0, 1) := by decide +kernel
theorem dX4_sum_1 : decode cX4_sum 1 = .ok (.istore_n 1, 1) := by decide +kernel
theorem dX4_sum_2 : decode cX4_sum 2 = .ok (.iconst 0, 1) := by decide +kernel
theorem dX4_sum_3 : decode cX4_sum 3 = .ok (.istore_n 2, 1) := by decide +kernel
theorem dX4_sum_4 : decode cX4_sum 4 = .ok (.iload_n 2, 1) := by decide +kernel
theorem dX4_sum_5 : decode cX4_sum 5 = .ok (.aload_n 0, 1) := by decide +kernel
theorem dX4_sum_6 : decode cX4_sum 6 = .ok (.getfield 19, 3) := by decide +kernel
theorem dX4_sum_9 : decode cX4_sum 9 = .ok (.if_icmp .ge 18, 3) := by decide +kernel
theorem dX4_sum_12 : decode cX4_sum 12 = .ok (.iload_n 1, 1) := by decide +kernel
theorem dX4_sum_13 : decode cX4_sum 13 = .ok (.aload_n 0, 1) := by decide +kernel
theorem dX4_sum_14 : decode cX4_sum 14 = .ok (.getfield 9, 3) := by decide +kernel
theorem dX4_sum_17 : decode cX4_sum 17 = .ok (.iload_n 2, 1) := by decide +kernel
theorem dX4_sum_18 : decode cX4_sum 18 = .ok (.iaload, 1) := by decide +kernel
theorem dX4_sum_19 : decode cX4_sum 19 = .ok (.iadd, 1) := by decide +kernel
theorem dX4_sum_20 : decode cX4_sum 20 = .ok (.istore_n 1, 1) := by decide +kernel
theorem dX4_sum_21 : decode cX4_sum 21 = .ok (.iinc 2 1, 3) := by decide +kernel
theorem dX4_sum_24 : decode cX4_sum 24 = .ok (.goto (-20), 3) := by decide +kernel
theorem dX4_sum_27 : decode cX4_sum 27 = .ok (.iload_n 1, 1) := by decide +kernel
theorem dX4_sum_28 : decode cX4_sum 28 = .ok (.ireturn, 1) := by decide +kernel
theorem dX5_init_0 : decode cX5_init 0 = .ok (.aload_n 0, 1) := by decide +kernel
theorem dX5_init_1 : decode cX5_init 1 = .ok (.invokespecial 3, 3) := by decide +kernel
theorem dX5_init_4 : decode cX5_init 4 = .ok (.aload_n 0, 1) := by decide +kernel
theorem dX5_init_5 : decode cX5_init 5 = .ok (.bipush 6, 2) := by decide +kernel
theorem dX5_init_7 : decode cX5_init 7 = .ok (.bipush 6, 2) := by decide +kernel
theorem dX5_init_9 : decode cX5_init 9 = .ok (.multianewarray 9 2, 4) := by decide +kernel
theorem dX5_init_13 : decode cX5_init 13 = .ok (.putfield 11, 3) := by decide +kernel
theorem dX5_init_16 : decode cX5_init 16 = .ok (.aload_n 0, 1) := by decide +kernel
theorem dX5_init_17 : decode cX5_init 17 = .ok (.bipush 6, 2) := by decide +kernel
theorem dX5_init_19 : decode cX5_init 19 = .ok (.newarray .boolean, 2) := by decide +kernel
theorem dX5_init_21 : decode cX5_init 21 = .ok (.putfield 16, 3) := by decide +kernel
theorem dX5_init_24 : decode cX5_init 24 = .ok (.return_, 1) := by decide +kernel
set_option maxRecDepth 20000 in
theorem ggX5_set_J7_fill_53178 : GoodIn wsX5_set wsJ7_fill_53178 := goodIn_r _ [9] (by decide +kernel) (by decide +kernel)
set_option maxRecDepth 20000 in
theorem gX5_set_J7_fill_53178 : GoodIn wsX5_set (va_wsS RX5 31 yJ7_fill_53178 wsJ7_fill_53178) := goodIn_app (goodIn_of _ (by decide +kernel)) ggX5_set_J7_fill_53178
theorem dX5_set_0 : decode cX5_set 0 = .ok (.aload_n 0, 1) := by decide +kernel
theorem dX5_set_1 : decode cX5_set 1 = .ok (.iconst 1, 1) := by decide +kernel
theorem dX5_set_2 : decode cX5_set 2 = .ok (.putfield 20, 3) := by decide +kernel
theorem dX5_set_5 : decode cX5_set 5 = .ok (.aload_n 0, 1) := by decide +kernel
theorem dX5_set_6 : decode cX5_set 6 = .ok (.iload_n 1, 1) := by decide +kernel
theorem dX5_set_7 : decode cX5_set 7 = .ok (.putfield 24, 3) := by decide +kernel
theorem dX5_set_10 : decode cX5_set 10 = .ok (.aload_n 0, 1) := by decide +kernel
theorem dX5_set_11 : decode cX5_set 11 = .ok (.iload_n 2, 1) := by decide +kernel
theorem dX5_set_12 : decode cX5_set 12 = .ok (.putfield 28, 3) := by decide +kernel
theorem dX5_set_15 : decode cX5_set 15 = .ok (.iconst 0, 1) := by decide +kernel
theorem dX5_set_16 : decode cX5_set 16 = .ok (.istore_n 3, 1) := by decide +kernel
theorem dX5_set_17 : decode cX5_set 17 = .ok (.iload_n 3, 1) := by decide +kernel
theorem dX5_set_18 : decode cX5_set 18 = .ok (.bipush 6, 2) := by decide +kernel
theorem dX5_set_20 : decode cX5_set 20 = .ok (.if_icmp .ge 26, 3) := by decide +kernel
theorem dX5_set_23 : decode cX5_set 23 = .ok (.aload_n 0, 1) := by decide +kernel
theorem dX5_set_24 : decode cX5_set 24 = .ok (.getfield 16, 3) := by decide +kernel
theorem dX5_set_27 : decode cX5_set 27 = .ok (.iload_n 3, 1) := by decide +kernel
theorem dX5_set_28 : decode cX5_set 28 = .ok (.iconst 1, 1) := by decide +kernel
theorem dX5_set_29 : decode cX5_set 29 = .ok (.bastore, 1) := by decide +kernel
theorem dX5_set_30 : decode cX5_set 30 = .ok (.aload_n 0, 1) := by decide +kernel
theorem dX5_set_31 : decode cX5_set 31 = .ok (.getfield 11, 3) := by decide +kernel
theorem dX5_set_34 : decode cX5_set 34 = .ok (.iload_n 3, 1) := by decide +kernel
theorem dX5_set_35 : decode cX5_set 35 = .ok (.aaload, 1) := by decide +kernel
theorem dX5_set_36 : decode cX5_set 36 = .ok (.iconst 0, 1) := by decide +kernel
theorem dX5_set_37 : decode cX5_set 37 = .ok (.invokestatic 31, 3) := by decide +kernel
theorem dX5_set_40 : decode cX5_set 40 = .ok (.iinc 3 1, 3) := by decide +kernel
theorem dX5_set_43 : decode cX5_set 43 = .ok (.goto (-26), 3) := by decide +kernel
theorem dX5_set_46 : decode cX5_set 46 = .ok (.return_, 1) := by decide +kernel
theorem dX6_init_0 : decode cX6_init 0 = .ok (.aload_n 0, 1) := by decide +kernel
theorem dX6_init_1 : decode cX6_init 1 = .ok (.invokespecial 3, 3) := by decide +kernel
theorem dX6_init_4 : decode cX6_init 4 = .ok (.aload_n 0, 1) := by decide +kernel
theorem dX6_init_5 : decode cX6_init 5 = .ok (.bipush 8, 2) := by decide +kernel
theorem dX6_init_7 : decode cX6_init 7 = .ok (.anewarray 9, 3) := by decide +kernel
theorem dX6_init_10 : decode cX6_init 10 = .ok (.putfield 11, 3) := by decide +kernel
theorem dX6_init_13 : decode cX6_init 13 = .ok (.return_, 1) := by decide +kernel
theorem dX6_form_0 : decode cX6_form 0 = .ok (.aload_n 0, 1) := by decide +kernel
theorem dX6_form_1 : decode cX6_form 1 = .ok (.iconst 1, 1) := by decide +kernel
theorem dX6_form_2 : decode cX6_form 2 = .ok (.putfield 17, 3) := by decide +kernel
theorem dX6_form_5 : decode cX6_form 5 = .ok (.aload_n 0, 1) := by decide +kernel
theorem dX6_form_6 : decode cX6_form 6 = .ok (.iload_n 1, 1) := by decide +kernel
theorem dX6_form_7 : decode cX6_form 7 = .ok (.putfield 21, 3) := by decide +kernel
theorem dX6_form_10 : decode cX6_form 10 = .ok (.aload_n 0, 1) := by decide +kernel
theorem dX6_form_11 : decode cX6_form 11 = .ok (.iload_n 2, 1) := by decide +kernel
theorem dX6_form_12 : decode cX6_form 12 = .ok (.putfield 25, 3) := by decide +kernel
theorem dX6_form_15 : decode cX6_form 15 = .ok (.iconst 0, 1) := by decide +kernel
theorem dX6_form_16 : decode cX6_form 16 = .ok (.istore_n 3, 1) := by decide +kernel
theorem dX6_form_17 : decode cX6_form 17 = .ok (.iload_n 3, 1) := by decide +kernel
theorem dX6_form_18 : decode cX6_form 18 = .ok (.bipush 8, 2) := by decide +kernel
theorem dX6_form_20 : decode cX6_form 20 = .ok (.if_icmp .ge 16, 3) := by decide +kernel
theorem dX6_form_23 : decode cX6_form 23 = .ok (.aload_n 0, 1) := by decide +kernel
theorem dX6_form_24 : decode cX6_form 24 = .ok (.getfield 11, 3) := by decide +kernel
theorem dX6_form_27 : decode cX6_form 27 = .ok (.iload_n 3, 1) := by decide +kernel
theorem dX6_form_28 : decode cX6_form 28 = .ok (.aconst_null, 1) := by decide +kernel
theorem dX6_form_29 : decode cX6_form 29 = .ok (.aastore, 1) := by decide +kernel
theorem dX6_form_30 : decode cX6_form 30 = .ok (.iinc 3 1, 3) := by decide +kernel
theorem dX6_form_33 : decode cX6_form 33 = .ok (.goto (-16), 3) := by decide +kernel
theorem dX6_form_36 : decode cX6_form 36 = .ok (.return_, 1) := by decide +kernel
set_option maxRecDepth 20000 in
theorem ggX6_isFor_X1_kindNumber : GoodIn wsX6_isFor wsX1_kindNumber := goodIn_r _ [8] (by decide +kernel) (by decide +kernel)
set_option maxRecDepth 20000 in
theorem gX6_isFor_X1_kindNumber_u28X1 : GoodIn wsX6_isFor (va_wsO RX6 28 RX1 "RidingYard$Horse" ⟨"RidingYard$Horse", "kindNumber", "()I"⟩ yX1_kindNumber wsX1_kindNumber) := goodIn_app (goodIn_of _ (by decide +kernel)) ggX6_isFor_X1_kindNumber
set_option maxRecDepth 20000 in
theorem ggX6_isFor_X2_kindNumber : GoodIn wsX6_isFor wsX2_kindNumber := goodIn_r _ [9] (by decide +kernel) (by decide +kernel)
set_option maxRecDepth 20000 in
theorem gX6_isFor_X2_kindNumber : GoodIn wsX6_isFor (wsV RX6 28 RX2 yX2_kindNumber wsX2_kindNumber) := goodIn_app (goodIn_of _ (by decide +kernel)) ggX6_isFor_X2_kindNumber
set_option maxRecDepth 20000 in
theorem ggX6_isFor_X3_kindNumber : GoodIn wsX6_isFor wsX3_kindNumber := goodIn_r _ [17] (by decide +kernel) (by decide +kernel)
set_option maxRecDepth 20000 in
theorem gX6_isFor_X3_kindNumber_u28X3 : GoodIn wsX6_isFor (va_wsO RX6 28 RX3 "RidingYard$Horse" ⟨"RidingYard$Horse", "kindNumber", "()I"⟩ yX3_kindNumber wsX3_kindNumber) := goodIn_app (goodIn_of _ (by decide +kernel)) ggX6_isFor_X3_kindNumber
theorem dX6_isFor_0 : decode cX6_isFor 0 = .ok (.aload_n 1, 1) := by decide +kernel
theorem dX6_isFor_1 : decode cX6_isFor 1 = .ok (.ifnull 14, 3) := by decide +kernel
theorem dX6_isFor_4 : decode cX6_isFor 4 = .ok (.aload_n 1, 1) := by decide +kernel
theorem dX6_isFor_5 : decode cX6_isFor 5 = .ok (.invokevirtual 28, 3) := by decide +kernel
theorem dX6_isFor_8 : decode cX6_isFor 8 = .ok (.aload_n 0, 1) := by decide +kernel
theorem dX6_isFor_9 : decode cX6_isFor 9 = .ok (.getfield 21, 3) := by decide +kernel
theorem dX6_isFor_12 : decode cX6_isFor 12 = .ok (.if_icmp .lt 7, 3) := by decide +kernel
theorem dX6_isFor_15 : decode cX6_isFor 15 = .ok (.iconst 1, 1) := by decide +kernel
theorem dX6_isFor_16 : decode cX6_isFor 16 = .ok (.goto 4, 3) := by decide +kernel
theorem dX6_isFor_19 : decode cX6_isFor 19 = .ok (.iconst 0, 1) := by decide +kernel
theorem dX6_isFor_20 : decode cX6_isFor 20 = .ok (.ireturn, 1) := by decide +kernel
set_option maxRecDepth 20000 in
theorem ggX7_init_X8_init : GoodIn wsX7_init wsX8_init := goodIn_r _ [4, 5, 6, 7] (by decide +kernel) (by decide +kernel)
set_option maxRecDepth 20000 in
theorem gX7_init_X8_init_n1 : GoodIn wsX7_init (wsX8_init) := ggX7_init_X8_init
theorem dX7_init_0 : decode cX7_init 0 = .ok (.aload_n 0, 1) := by decide +kernel
theorem dX7_init_1 : decode cX7_init 1 = .ok (.invokespecial 1, 3) := by decide +kernel
theorem dX7_init_4 : decode cX7_init 4 = .ok (.aload_n 0, 1) := by decide +kernel
theorem dX7_init_5 : decode cX7_init 5 = .ok (.iload_n 1, 1) := by decide +kernel
theorem dX7_init_6 : decode cX7_init 6 = .ok (.putfield 7, 3) := by decide +kernel
theorem dX7_init_9 : decode cX7_init 9 = .ok (.return_, 1) := by decide +kernel
theorem dX7_workFor_0 : decode cX7_workFor 0 = .ok (.aload_n 0, 1) := by decide +kernel
theorem dX7_workFor_1 : decode cX7_workFor 1 = .ok (.dup, 1) := by decide +kernel
theorem dX7_workFor_2 : decode cX7_workFor 2 = .ok (.getfield 13, 3) := by decide +kernel
theorem dX7_workFor_5 : decode cX7_workFor 5 = .ok (.iload_n 1, 1) := by decide +kernel
theorem dX7_workFor_6 : decode cX7_workFor 6 = .ok (.aload_n 0, 1) := by decide +kernel
theorem dX7_workFor_7 : decode cX7_workFor 7 = .ok (.getfield 7, 3) := by decide +kernel
theorem dX7_workFor_10 : decode cX7_workFor 10 = .ok (.imul, 1) := by decide +kernel
theorem dX7_workFor_11 : decode cX7_workFor 11 = .ok (.iadd, 1) := by decide +kernel
theorem dX7_workFor_12 : decode cX7_workFor 12 = .ok (.putfield 13, 3) := by decide +kernel
theorem dX7_workFor_15 : decode cX7_workFor 15 = .ok (.aload_n 0, 1) := by decide +kernel
theorem dX7_workFor_16 : decode cX7_workFor 16 = .ok (.getfield 13, 3) := by decide +kernel
theorem dX7_workFor_19 : decode cX7_workFor 19 = .ok (.ireturn, 1) := by decide +kernel
theorem dX8_init_0 : decode cX8_init 0 = .ok (.aload_n 0, 1) := by decide +kernel
theorem dX8_init_1 : decode cX8_init 1 = .ok (.invokespecial 1, 3) := by decide +kernel
theorem dX8_init_4 : decode cX8_init 4 = .ok (.return_, 1) := by decide +kernel
set_option maxRecDepth 20000 in
theorem ggX9_init_X6_init : GoodIn wsX9_init wsX6_init := goodIn_r _ [29, 30, 2, 3, 31, 32, 61, 62, 63, 64] (by decide +kernel) (by decide +kernel)
set_option maxRecDepth 20000 in
theorem gX9_init_X6_init_n60 : GoodIn wsX9_init (wsX6_init) := ggX9_init_X6_init
set_option maxRecDepth 20000 in
theorem ggX9_init_X4_init : GoodIn wsX9_init wsX4_init := goodIn_r _ [34, 35, 2, 3, 17, 36, 65, 66, 67] (by decide +kernel) (by decide +kernel)
set_option maxRecDepth 20000 in
theorem gX9_init_X4_init_n61 : GoodIn wsX9_init (wsX4_init) := ggX9_init_X4_init
set_option maxRecDepth 20000 in
theorem ggX9_init_X5_init : GoodIn wsX9_init wsX5_init := goodIn_r _ [38, 39, 2, 3, 40, 17, 41, 42, 43, 68, 69, 70, 71, 72] (by decide +kernel) (by decide +kernel)
set_option maxRecDepth 20000 in
theorem gX9_init_X5_init_n62 : GoodIn wsX9_init (wsX5_init) := ggX9_init_X5_init
theorem dX9_init_0 : decode cX9_init 0 = .ok (.aload_n 0, 1) := by decide +kernel
theorem dX9_init_1 : decode cX9_init 1 = .ok (.invokespecial 1, 3) := by decide +kernel
theorem dX9_init_4 : decode cX9_init 4 = .ok (.aload_n 0, 1) := by decide +kernel
theorem dX9_init_5 : decode cX9_init 5 = .ok (.bipush 10, 2) := by decide +kernel
theorem dX9_init_7 : decode cX9_init 7 = .ok (.anewarray 9, 3) := by decide +kernel
theorem dX9_init_10 : decode cX9_init 10 = .ok (.putfield 11, 3) := by decide +kernel
theorem dX9_init_13 : decode cX9_init 13 = .ok (.aload_n 0, 1) := by decide +kernel
theorem dX9_init_14 : decode cX9_init 14 = .ok (.bipush 6, 2) := by decide +kernel
theorem dX9_init_16 : decode cX9_init 16 = .ok (.anewarray 15, 3) := by decide +kernel
theorem dX9_init_19 : decode cX9_init 19 = .ok (.putfield 17, 3) := by decide +kernel
theorem dX9_init_22 : decode cX9_init 22 = .ok (.aload_n 0, 1) := by decide +kernel
theorem dX9_init_23 : decode cX9_init 23 = .ok (.bipush 6, 2) := by decide +kernel
theorem dX9_init_25 : decode cX9_init 25 = .ok (.anewarray 21, 3) := by decide +kernel
theorem dX9_init_28 : decode cX9_init 28 = .ok (.putfield 23, 3) := by decide +kernel
theorem dX9_init_31 : decode cX9_init 31 = .ok (.aload_n 0, 1) := by decide +kernel
theorem dX9_init_32 : decode cX9_init 32 = .ok (.iconst 4, 1) := by decide +kernel
theorem dX9_init_33 : decode cX9_init 33 = .ok (.anewarray 27, 3) := by decide +kernel
theorem dX9_init_36 : decode cX9_init 36 = .ok (.putfield 29, 3) := by decide +kernel
theorem dX9_init_39 : decode cX9_init 39 = .ok (.aload_n 0, 1) := by decide +kernel
theorem dX9_init_40 : decode cX9_init 40 = .ok (.iconst 4, 1) := by decide +kernel
theorem dX9_init_41 : decode cX9_init 41 = .ok (.anewarray 33, 3) := by decide +kernel
theorem dX9_init_44 : decode cX9_init 44 = .ok (.putfield 35, 3) := by decide +kernel
theorem dX9_init_47 : decode cX9_init 47 = .ok (.aload_n 0, 1) := by decide +kernel
theorem dX9_init_48 : decode cX9_init 48 = .ok (.bipush 6, 2) := by decide +kernel
theorem dX9_init_50 : decode cX9_init 50 = .ok (.anewarray 39, 3) := by decide +kernel
theorem dX9_init_53 : decode cX9_init 53 = .ok (.putfield 41, 3) := by decide +kernel
theorem dX9_init_56 : decode cX9_init 56 = .ok (.aload_n 0, 1) := by decide +kernel
theorem dX9_init_57 : decode cX9_init 57 = .ok (.bipush 20, 2) := by decide +kernel
theorem dX9_init_59 : decode cX9_init 59 = .ok (.iconst 4, 1) := by decide +kernel
theorem dX9_init_60 : decode cX9_init 60 = .ok (.multianewarray 45 2, 4) := by decide +kernel
theorem dX9_init_64 : decode cX9_init 64 = .ok (.putfield 47, 3) := by decide +kernel
theorem dX9_init_67 : decode cX9_init 67 = .ok (.aload_n 0, 1) := by decide +kernel
theorem dX9_init_68 : decode cX9_init 68 = .ok (.bipush 40, 2) := by decide +kernel
theorem dX9_init_70 : decode cX9_init 70 = .ok (.newarray .int, 2) := by decide +kernel
theorem dX9_init_72 : decode cX9_init 72 = .ok (.putfield 50, 3) := by decide +kernel
theorem dX9_init_75 : decode cX9_init 75 = .ok (.aload_n 0, 1) := by decide +kernel
theorem dX9_init_76 : decode cX9_init 76 = .ok (.bipush 40, 2) := by decide +kernel
theorem dX9_init_78 : decode cX9_init 78 = .ok (.newarray .int, 2) := by decide +kernel
theorem dX9_init_80 : decode cX9_init 80 = .ok (.putfield 54, 3) := by decide +kernel
theorem dX9_init_83 : decode cX9_init 83 = .ok (.aload_n 0, 1) := by decide +kernel
theorem dX9_init_84 : decode cX9_init 84 = .ok (.bipush 7, 2) := by decide +kernel
theorem dX9_init_86 : decode cX9_init 86 = .ok (.newarray .int, 2) := by decide +kernel
theorem dX9_init_88 : decode cX9_init 88 = .ok (.putfield 57, 3) := by decide +kernel
theorem dX9_init_91 : decode cX9_init 91 = .ok (.iconst 0, 1) := by decide +kernel
theorem dX9_init_92 : decode cX9_init 92 = .ok (.istore_n 1, 1) := by decide +kernel
theorem dX9_init_93 : decode cX9_init 93 = .ok (.iload_n 1, 1) := by decide +kernel
theorem dX9_init_94 : decode cX9_init 94 = .ok (.bipush 6, 2) := by decide +kernel
theorem dX9_init_96 : decode cX9_init 96 = .ok (.if_icmp .ge 22, 3) := by decide +kernel
theorem dX9_init_99 : decode cX9_init 99 = .ok (.aload_n 0, 1) := by decide +kernel
theorem dX9_init_100 : decode cX9_init 100 = .ok (.getfield 23, 3) := by decide +kernel
theorem dX9_init_103 : decode cX9_init 103 = .ok (.iload_n 1, 1) := by decide +kernel
theorem dX9_init_104 : decode cX9_init 104 = .ok (.new 21, 3) := by decide +kernel
theorem dX9_init_107 : decode cX9_init 107 = .ok (.dup, 1) := by decide +kernel
theorem dX9_init_108 : decode cX9_init 108 = .ok (.invokespecial 60, 3) := by decide +kernel
theorem dX9_init_111 : decode cX9_init 111 = .ok (.aastore, 1) := by decide +kernel
theorem dX9_init_112 : decode cX9_init 112 = .ok (.iinc 1 1, 3) := by decide +kernel
theorem dX9_init_115 : decode cX9_init 115 = .ok (.goto (-22), 3) := by decide +kernel
theorem dX9_init_118 : decode cX9_init 118 = .ok (.iconst 0, 1) := by decide +kernel
theorem dX9_init_119 : decode cX9_init 119 = .ok (.istore_n 1, 1) := by decide +kernel
theorem dX9_init_120 : decode cX9_init 120 = .ok (.iload_n 1, 1) := by decide +kernel
theorem dX9_init_121 : decode cX9_init 121 = .ok (.iconst 4, 1) := by decide +kernel
theorem dX9_init_122 : decode cX9_init 122 = .ok (.if_icmp .ge 22, 3) := by decide +kernel
theorem dX9_init_125 : decode cX9_init 125 = .ok (.aload_n 0, 1) := by decide +kernel
theorem dX9_init_126 : decode cX9_init 126 = .ok (.getfield 29, 3) := by decide +kernel
theorem dX9_init_129 : decode cX9_init 129 = .ok (.iload_n 1, 1) := by decide +kernel
theorem dX9_init_130 : decode cX9_init 130 = .ok (.new 27, 3) := by decide +kernel
theorem dX9_init_133 : decode cX9_init 133 = .ok (.dup, 1) := by decide +kernel
theorem dX9_init_134 : decode cX9_init 134 = .ok (.invokespecial 61, 3) := by decide +kernel
theorem dX9_init_137 : decode cX9_init 137 = .ok (.aastore, 1) := by decide +kernel
theorem dX9_init_138 : decode cX9_init 138 = .ok (.iinc 1 1, 3) := by decide +kernel
theorem dX9_init_141 : decode cX9_init 141 = .ok (.goto (-21), 3) := by decide +kernel
theorem dX9_init_144 : decode cX9_init 144 = .ok (.iconst 0, 1) := by decide +kernel
theorem dX9_init_145 : decode cX9_init 145 = .ok (.istore_n 1, 1) := by decide +kernel
theorem dX9_init_146 : decode cX9_init 146 = .ok (.iload_n 1, 1) := by decide +kernel
theorem dX9_init_147 : decode cX9_init 147 = .ok (.iconst 4, 1) := by decide +kernel
theorem dX9_init_148 : decode cX9_init 148 = .ok (.if_icmp .ge 22, 3) := by decide +kernel
theorem dX9_init_151 : decode cX9_init 151 = .ok (.aload_n 0, 1) := by decide +kernel
theorem dX9_init_152 : decode cX9_init 152 = .ok (.getfield 35, 3) := by decide +kernel
theorem dX9_init_155 : decode cX9_init 155 = .ok (.iload_n 1, 1) := by decide +kernel
theorem dX9_init_156 : decode cX9_init 156 = .ok (.new 33, 3) := by decide +kernel
theorem dX9_init_159 : decode cX9_init 159 = .ok (.dup, 1) := by decide +kernel
theorem dX9_init_160 : decode cX9_init 160 = .ok (.invokespecial 62, 3) := by decide +kernel
theorem dX9_init_163 : decode cX9_init 163 = .ok (.aastore, 1) := by decide +kernel
theorem dX9_init_164 : decode cX9_init 164 = .ok (.iinc 1 1, 3) := by decide +kernel
theorem dX9_init_167 : decode cX9_init 167 = .ok (.goto (-21), 3) := by decide +kernel
theorem dX9_init_170 : decode cX9_init 170 = .ok (.return_, 1) := by decide +kernel
set_option maxRecDepth 20000 in
theorem ggX9_horse_X9_within : GoodIn wsX9_horse wsX9_within := goodIn_r _ [8] (by decide +kernel) (by decide +kernel)
set_option maxRecDepth 20000 in
theorem gX9_horse_X9_within : GoodIn wsX9_horse (va_wsS RX9 63 yX9_within wsX9_within) := goodIn_app (goodIn_of _ (by decide +kernel)) ggX9_horse_X9_within
set_option maxRecDepth 20000 in
theorem ggX9_horse_X9_newHorse : GoodIn wsX9_horse wsX9_newHorse := goodIn_r _ [11, 12, 13, 14, 15, 16, 17, 18, 19, 20, 21, 22, 23, 24, 25, 26, 27, 28, 29, 30, 31, 32, 33, 34, 35, 36, 37, 38, 56, 57, 58, 59, 60, 61, 62, 63, 64, 65, 66, 67, 68, 69, 70] (by decide +kernel) (by decide +kernel)
set_option maxRecDepth 20000 in
theorem gX9_horse_X9_newHorse : GoodIn wsX9_horse (va_wsS RX9 73 yX9_newHorse wsX9_newHorse) := goodIn_app (goodIn_of _ (by decide +kernel)) ggX9_horse_X9_newHorse
theorem dX9_horse_0 : decode cX9_horse 0 = .ok (.iload_n 1, 1) := by decide +kernel
theorem dX9_horse_1 : decode cX9_horse 1 = .ok (.bipush 10, 2) := by decide +kernel
theorem dX9_horse_3 : decode cX9_horse 3 = .ok (.invokestatic 63, 3) := by decide +kernel
theorem dX9_horse_6 : decode cX9_horse 6 = .ok (.ifCond .eq 11, 3) := by decide +kernel
theorem dX9_horse_9 : decode cX9_horse 9 = .ok (.iload_n 2, 1) := by decide +kernel
theorem dX9_horse_10 : decode cX9_horse 10 = .ok (.iconst 3, 1) := by decide +kernel
theorem dX9_horse_11 : decode cX9_horse 11 = .ok (.invokestatic 63, 3) := by decide +kernel
theorem dX9_horse_14 : decode cX9_horse 14 = .ok (.ifCond .ne 6, 3) := by decide +kernel
theorem dX9_horse_17 : decode cX9_horse 17 = .ok (.ldc 67, 2) := by decide +kernel
theorem dX9_horse_19 : decode cX9_horse 19 = .ok (.ireturn, 1) := by decide +kernel
theorem dX9_horse_20 : decode cX9_horse 20 = .ok (.aload_n 0, 1) := by decide +kernel
theorem dX9_horse_21 : decode cX9_horse 21 = .ok (.getfield 68, 3) := by decide +kernel
theorem dX9_horse_24 : decode cX9_horse 24 = .ok (.bipush 60, 2) := by decide +kernel
theorem dX9_horse_26 : decode cX9_horse 26 = .ok (.if_icmp .lt 6, 3) := by decide +kernel
theorem dX9_horse_29 : decode cX9_horse 29 = .ok (.ldc 72, 2) := by decide +kernel
theorem dX9_horse_31 : decode cX9_horse 31 = .ok (.ireturn, 1) := by decide +kernel
theorem dX9_horse_32 : decode cX9_horse 32 = .ok (.aload_n 0, 1) := by decide +kernel
theorem dX9_horse_33 : decode cX9_horse 33 = .ok (.getfield 11, 3) := by decide +kernel
theorem dX9_horse_36 : decode cX9_horse 36 = .ok (.iload_n 1, 1) := by decide +kernel
theorem dX9_horse_37 : decode cX9_horse 37 = .ok (.iload_n 2, 1) := by decide +kernel
theorem dX9_horse_38 : decode cX9_horse 38 = .ok (.iload_n 3, 1) := by decide +kernel
theorem dX9_horse_39 : decode cX9_horse 39 = .ok (.invokestatic 73, 3) := by decide +kernel
theorem dX9_horse_42 : decode cX9_horse 42 = .ok (.aastore, 1) := by decide +kernel
theorem dX9_horse_43 : decode cX9_horse 43 = .ok (.aload_n 0, 1) := by decide +kernel
theorem dX9_horse_44 : decode cX9_horse 44 = .ok (.dup, 1) := by decide +kernel
theorem dX9_horse_45 : decode cX9_horse 45 = .ok (.getfield 68, 3) := by decide +kernel
theorem dX9_horse_48 : decode cX9_horse 48 = .ok (.iconst 1, 1) := by decide +kernel
theorem dX9_horse_49 : decode cX9_horse 49 = .ok (.iadd, 1) := by decide +kernel
theorem dX9_horse_50 : decode cX9_horse 50 = .ok (.putfield 68, 3) := by decide +kernel
theorem dX9_horse_53 : decode cX9_horse 53 = .ok (.aload_n 0, 1) := by decide +kernel
theorem dX9_horse_54 : decode cX9_horse 54 = .ok (.getfield 68, 3) := by decide +kernel
theorem dX9_horse_57 : decode cX9_horse 57 = .ok (.iconst 1, 1) := by decide +kernel
theorem dX9_horse_58 : decode cX9_horse 58 = .ok (.isub, 1) := by decide +kernel
theorem dX9_horse_59 : decode cX9_horse 59 = .ok (.ireturn, 1) := by decide +kernel
set_option maxRecDepth 20000 in
theorem ggX9_wagon_X9_within : GoodIn wsX9_wagon wsX9_within := goodIn_r _ [11] (by decide +kernel) (by decide +kernel)
set_option maxRecDepth 20000 in
theorem gX9_wagon_X9_within : GoodIn wsX9_wagon (va_wsS RX9 63 yX9_within wsX9_within) := goodIn_app (goodIn_of _ (by decide +kernel)) ggX9_wagon_X9_within
set_option maxRecDepth 20000 in
theorem ggX9_wagon_X7_init : GoodIn wsX9_wagon wsX7_init := goodIn_r _ [14, 15, 16, 17, 18, 19, 20, 21, 39, 40] (by decide +kernel) (by decide +kernel)
set_option maxRecDepth 20000 in
theorem gX9_wagon_X7_init : GoodIn wsX9_wagon (wsX7_init) := ggX9_wagon_X7_init
theorem dX9_wagon_0 : decode cX9_wagon 0 = .ok (.iload_n 1, 1) := by decide +kernel
theorem dX9_wagon_1 : decode cX9_wagon 1 = .ok (.bipush 6, 2) := by decide +kernel
theorem dX9_wagon_3 : decode cX9_wagon 3 = .ok (.invokestatic 63, 3) := by decide +kernel
theorem dX9_wagon_6 : decode cX9_wagon 6 = .ok (.ifCond .ne 6, 3) := by decide +kernel
theorem dX9_wagon_9 : decode cX9_wagon 9 = .ok (.ldc 67, 2) := by decide +kernel
theorem dX9_wagon_11 : decode cX9_wagon 11 = .ok (.ireturn, 1) := by decide +kernel
theorem dX9_wagon_12 : decode cX9_wagon 12 = .ok (.aload_n 0, 1) := by decide +kernel
theorem dX9_wagon_13 : decode cX9_wagon 13 = .ok (.getfield 77, 3) := by decide +kernel
theorem dX9_wagon_16 : decode cX9_wagon 16 = .ok (.bipush 60, 2) := by decide +kernel
theorem dX9_wagon_18 : decode cX9_wagon 18 = .ok (.if_icmp .lt 6, 3) := by decide +kernel
theorem dX9_wagon_21 : decode cX9_wagon 21 = .ok (.ldc 72, 2) := by decide +kernel
theorem dX9_wagon_23 : decode cX9_wagon 23 = .ok (.ireturn, 1) := by decide +kernel
theorem dX9_wagon_24 : decode cX9_wagon 24 = .ok (.aload_n 0, 1) := by decide +kernel
theorem dX9_wagon_25 : decode cX9_wagon 25 = .ok (.getfield 17, 3) := by decide +kernel
theorem dX9_wagon_28 : decode cX9_wagon 28 = .ok (.iload_n 1, 1) := by decide +kernel
theorem dX9_wagon_29 : decode cX9_wagon 29 = .ok (.new 80, 3) := by decide +kernel
theorem dX9_wagon_32 : decode cX9_wagon 32 = .ok (.dup, 1) := by decide +kernel
theorem dX9_wagon_33 : decode cX9_wagon 33 = .ok (.iload_n 2, 1) := by decide +kernel
theorem dX9_wagon_34 : decode cX9_wagon 34 = .ok (.invokespecial 82, 3) := by decide +kernel
theorem dX9_wagon_37 : decode cX9_wagon 37 = .ok (.aastore, 1) := by decide +kernel
theorem dX9_wagon_38 : decode cX9_wagon 38 = .ok (.aload_n 0, 1) := by decide +kernel
theorem dX9_wagon_39 : decode cX9_wagon 39 = .ok (.dup, 1) := by decide +kernel
theorem dX9_wagon_40 : decode cX9_wagon 40 = .ok (.getfield 77, 3) := by decide +kernel
theorem dX9_wagon_43 : decode cX9_wagon 43 = .ok (.iconst 1, 1) := by decide +kernel
theorem dX9_wagon_44 : decode cX9_wagon 44 = .ok (.iadd, 1) := by decide +kernel
theorem dX9_wagon_45 : decode cX9_wagon 45 = .ok (.putfield 77, 3) := by decide +kernel
theorem dX9_wagon_48 : decode cX9_wagon 48 = .ok (.aload_n 0, 1) := by decide +kernel
theorem dX9_wagon_49 : decode cX9_wagon 49 = .ok (.getfield 77, 3) := by decide +kernel
theorem dX9_wagon_52 : decode cX9_wagon 52 = .ok (.iconst 1, 1) := by decide +kernel
theorem dX9_wagon_53 : decode cX9_wagon 53 = .ok (.isub, 1) := by decide +kernel
theorem dX9_wagon_54 : decode cX9_wagon 54 = .ok (.ireturn, 1) := by decide +kernel
set_option maxRecDepth 20000 in
theorem ggX9_lead_X9_within : GoodIn wsX9_lead wsX9_within := goodIn_r _ [7] (by decide +kernel) (by decide +kernel)
set_option maxRecDepth 20000 in
theorem gX9_lead_X9_within : GoodIn wsX9_lead (va_wsS RX9 63 yX9_within wsX9_within) := goodIn_app (goodIn_of _ (by decide +kernel)) ggX9_lead_X9_within
set_option maxRecDepth 20000 in
theorem ggX9_lead_X9_oneIf : GoodIn wsX9_lead wsX9_oneIf := goodIn_r _ [10] (by decide +kernel) (by decide +kernel)
set_option maxRecDepth 20000 in
theorem gX9_lead_X9_oneIf : GoodIn wsX9_lead (va_wsS RX9 85 yX9_oneIf wsX9_oneIf) := goodIn_app (goodIn_of _ (by decide +kernel)) ggX9_lead_X9_oneIf
theorem dX9_lead_0 : decode cX9_lead 0 = .ok (.iload_n 1, 1) := by decide +kernel
theorem dX9_lead_1 : decode cX9_lead 1 = .ok (.bipush 10, 2) := by decide +kernel
theorem dX9_lead_3 : decode cX9_lead 3 = .ok (.invokestatic 63, 3) := by decide +kernel
theorem dX9_lead_6 : decode cX9_lead 6 = .ok (.ifCond .eq 12, 3) := by decide +kernel
theorem dX9_lead_9 : decode cX9_lead 9 = .ok (.iload_n 2, 1) := by decide +kernel
theorem dX9_lead_10 : decode cX9_lead 10 = .ok (.bipush 6, 2) := by decide +kernel
theorem dX9_lead_12 : decode cX9_lead 12 = .ok (.invokestatic 63, 3) := by decide +kernel
theorem dX9_lead_15 : decode cX9_lead 15 = .ok (.ifCond .ne 6, 3) := by decide +kernel
theorem dX9_lead_18 : decode cX9_lead 18 = .ok (.ldc 67, 2) := by decide +kernel
theorem dX9_lead_20 : decode cX9_lead 20 = .ok (.ireturn, 1) := by decide +kernel
theorem dX9_lead_21 : decode cX9_lead 21 = .ok (.aload_n 0, 1) := by decide +kernel
theorem dX9_lead_22 : decode cX9_lead 22 = .ok (.getfield 17, 3) := by decide +kernel
theorem dX9_lead_25 : decode cX9_lead 25 = .ok (.iload_n 2, 1) := by decide +kernel
theorem dX9_lead_26 : decode cX9_lead 26 = .ok (.aload_n 0, 1) := by decide +kernel
theorem dX9_lead_27 : decode cX9_lead 27 = .ok (.getfield 11, 3) := by decide +kernel
theorem dX9_lead_30 : decode cX9_lead 30 = .ok (.iload_n 1, 1) := by decide +kernel
theorem dX9_lead_31 : decode cX9_lead 31 = .ok (.aaload, 1) := by decide +kernel
theorem dX9_lead_32 : decode cX9_lead 32 = .ok (.aastore, 1) := by decide +kernel
theorem dX9_lead_33 : decode cX9_lead 33 = .ok (.aload_n 0, 1) := by decide +kernel
theorem dX9_lead_34 : decode cX9_lead 34 = .ok (.getfield 11, 3) := by decide +kernel
theorem dX9_lead_37 : decode cX9_lead 37 = .ok (.iload_n 1, 1) := by decide +kernel
theorem dX9_lead_38 : decode cX9_lead 38 = .ok (.aaload, 1) := by decide +kernel
theorem dX9_lead_39 : decode cX9_lead 39 = .ok (.ifnull 7, 3) := by decide +kernel
theorem dX9_lead_42 : decode cX9_lead 42 = .ok (.iconst 1, 1) := by decide +kernel
theorem dX9_lead_43 : decode cX9_lead 43 = .ok (.goto 4, 3) := by decide +kernel
theorem dX9_lead_46 : decode cX9_lead 46 = .ok (.iconst 0, 1) := by decide +kernel
theorem dX9_lead_47 : decode cX9_lead 47 = .ok (.invokestatic 85, 3) := by decide +kernel
theorem dX9_lead_50 : decode cX9_lead 50 = .ok (.ireturn, 1) := by decide +kernel
set_option maxRecDepth 20000 in
theorem ggX9_empty_X9_within : GoodIn wsX9_empty wsX9_within := goodIn_r _ [6] (by decide +kernel) (by decide +kernel)
set_option maxRecDepth 20000 in
theorem gX9_empty_X9_within : GoodIn wsX9_empty (va_wsS RX9 63 yX9_within wsX9_within) := goodIn_app (goodIn_of _ (by decide +kernel)) ggX9_empty_X9_within
set_option maxRecDepth 20000 in
theorem ggX9_empty_X9_holdsSomething : GoodIn wsX9_empty wsX9_holdsSomething := goodIn_r _ [10, 11, 12, 13, 14, 15, 16, 17, 18, 19, 27, 28, 29, 30, 31, 32, 33, 34, 35, 36, 37, 38, 39, 40, 41, 42, 43, 44, 45, 46, 47, 48, 49, 50, 51, 52, 53, 54, 55] (by decide +kernel) (by decide +kernel)
set_option maxRecDepth 20000 in
theorem gX9_empty_X9_holdsSomething : GoodIn wsX9_empty (wsV RX9 92 RX9 yX9_holdsSomething wsX9_holdsSomething) := goodIn_app (goodIn_of _ (by decide +kernel)) ggX9_empty_X9_holdsSomething
set_option maxRecDepth 20000 in
theorem ggX9_empty_X9_takeAway : GoodIn wsX9_empty wsX9_takeAway := goodIn_r _ [23, 11, 12, 13, 14, 15, 16, 17, 18, 19, 27, 28, 29, 30, 31, 32, 33, 34, 35, 36, 37, 38, 39, 40, 41, 42, 43, 44, 45, 46, 47, 48, 49, 50, 51, 52, 53, 54, 55] (by decide +kernel) (by decide +kernel)
set_option maxRecDepth 20000 in
theorem gX9_empty_X9_takeAway : GoodIn wsX9_empty (wsV RX9 95 RX9 yX9_takeAway wsX9_takeAway) := goodIn_app (goodIn_of _ (by decide +kernel)) ggX9_empty_X9_takeAway
set_option maxRecDepth 20000 in
theorem ggX9_empty_X9_oneIf : GoodIn wsX9_empty wsX9_oneIf := goodIn_r _ [26] (by decide +kernel) (by decide +kernel)
set_option maxRecDepth 20000 in
theorem gX9_empty_X9_oneIf : GoodIn wsX9_empty (va_wsS RX9 85 yX9_oneIf wsX9_oneIf) := goodIn_app (goodIn_of _ (by decide +kernel)) ggX9_empty_X9_oneIf
theorem dX9_empty_0 : decode cX9_empty 0 = .ok (.iload_n 1, 1) := by decide +kernel
theorem dX9_empty_1 : decode cX9_empty 1 = .ok (.getstatic 89, 3) := by decide +kernel
theorem dX9_empty_4 : decode cX9_empty 4 = .ok (.arraylength, 1) := by decide +kernel
theorem dX9_empty_5 : decode cX9_empty 5 = .ok (.invokestatic 63, 3) := by decide +kernel
theorem dX9_empty_8 : decode cX9_empty 8 = .ok (.ifCond .eq 15, 3) := by decide +kernel
theorem dX9_empty_11 : decode cX9_empty 11 = .ok (.iload_n 2, 1) := by decide +kernel
theorem dX9_empty_12 : decode cX9_empty 12 = .ok (.getstatic 89, 3) := by decide +kernel
theorem dX9_empty_15 : decode cX9_empty 15 = .ok (.iload_n 1, 1) := by decide +kernel
theorem dX9_empty_16 : decode cX9_empty 16 = .ok (.iaload, 1) := by decide +kernel
theorem dX9_empty_17 : decode cX9_empty 17 = .ok (.invokestatic 63, 3) := by decide +kernel
theorem dX9_empty_20 : decode cX9_empty 20 = .ok (.ifCond .ne 6, 3) := by decide +kernel
theorem dX9_empty_23 : decode cX9_empty 23 = .ok (.ldc 67, 2) := by decide +kernel
theorem dX9_empty_25 : decode cX9_empty 25 = .ok (.ireturn, 1) := by decide +kernel
theorem dX9_empty_26 : decode cX9_empty 26 = .ok (.aload_n 0, 1) := by decide +kernel
theorem dX9_empty_27 : decode cX9_empty 27 = .ok (.iload_n 1, 1) := by decide +kernel
theorem dX9_empty_28 : decode cX9_empty 28 = .ok (.iload_n 2, 1) := by decide +kernel
theorem dX9_empty_29 : decode cX9_empty 29 = .ok (.invokevirtual 92, 3) := by decide +kernel
theorem dX9_empty_32 : decode cX9_empty 32 = .ok (.istore_n 3, 1) := by decide +kernel
theorem dX9_empty_33 : decode cX9_empty 33 = .ok (.aload_n 0, 1) := by decide +kernel
theorem dX9_empty_34 : decode cX9_empty 34 = .ok (.iload_n 1, 1) := by decide +kernel
theorem dX9_empty_35 : decode cX9_empty 35 = .ok (.iload_n 2, 1) := by decide +kernel
theorem dX9_empty_36 : decode cX9_empty 36 = .ok (.invokevirtual 95, 3) := by decide +kernel
theorem dX9_empty_39 : decode cX9_empty 39 = .ok (.iload_n 3, 1) := by decide +kernel
theorem dX9_empty_40 : decode cX9_empty 40 = .ok (.invokestatic 85, 3) := by decide +kernel
theorem dX9_empty_43 : decode cX9_empty 43 = .ok (.ireturn, 1) := by decide +kernel
set_option maxRecDepth 20000 in
theorem ggX9_tear_X9_within : GoodIn wsX9_tear wsX9_within := goodIn_r _ [9] (by decide +kernel) (by decide +kernel)
set_option maxRecDepth 20000 in
theorem gX9_tear_X9_within : GoodIn wsX9_tear (va_wsS RX9 63 yX9_within wsX9_within) := goodIn_app (goodIn_of _ (by decide +kernel)) ggX9_tear_X9_within
set_option maxRecDepth 20000 in
theorem ggX9_tear_X9_oneIf : GoodIn wsX9_tear wsX9_oneIf := goodIn_r _ [12] (by decide +kernel) (by decide +kernel)
set_option maxRecDepth 20000 in
theorem gX9_tear_X9_oneIf : GoodIn wsX9_tear (va_wsS RX9 85 yX9_oneIf wsX9_oneIf) := goodIn_app (goodIn_of _ (by decide +kernel)) ggX9_tear_X9_oneIf
theorem dX9_tear_0 : decode cX9_tear 0 = .ok (.iload_n 1, 1) := by decide +kernel
theorem dX9_tear_1 : decode cX9_tear 1 = .ok (.iconst 4, 1) := by decide +kernel
theorem dX9_tear_2 : decode cX9_tear 2 = .ok (.invokestatic 63, 3) := by decide +kernel
theorem dX9_tear_5 : decode cX9_tear 5 = .ok (.ifCond .ne 6, 3) := by decide +kernel
theorem dX9_tear_8 : decode cX9_tear 8 = .ok (.ldc 67, 2) := by decide +kernel
theorem dX9_tear_10 : decode cX9_tear 10 = .ok (.ireturn, 1) := by decide +kernel
theorem dX9_tear_11 : decode cX9_tear 11 = .ok (.aload_n 0, 1) := by decide +kernel
theorem dX9_tear_12 : decode cX9_tear 12 = .ok (.getfield 35, 3) := by decide +kernel
theorem dX9_tear_15 : decode cX9_tear 15 = .ok (.iload_n 1, 1) := by decide +kernel
theorem dX9_tear_16 : decode cX9_tear 16 = .ok (.aaload, 1) := by decide +kernel
theorem dX9_tear_17 : decode cX9_tear 17 = .ok (.astore_n 3, 1) := by decide +kernel
theorem dX9_tear_18 : decode cX9_tear 18 = .ok (.aload_n 3, 1) := by decide +kernel
theorem dX9_tear_19 : decode cX9_tear 19 = .ok (.getfield 99, 3) := by decide +kernel
theorem dX9_tear_22 : decode cX9_tear 22 = .ok (.ifCond .eq 14, 3) := by decide +kernel
theorem dX9_tear_25 : decode cX9_tear 25 = .ok (.iload_n 2, 1) := by decide +kernel
theorem dX9_tear_26 : decode cX9_tear 26 = .ok (.aload_n 3, 1) := by decide +kernel
theorem dX9_tear_27 : decode cX9_tear 27 = .ok (.getfield 103, 3) := by decide +kernel
theorem dX9_tear_30 : decode cX9_tear 30 = .ok (.invokestatic 63, 3) := by decide +kernel
theorem dX9_tear_33 : decode cX9_tear 33 = .ok (.ifCond .ne 6, 3) := by decide +kernel
theorem dX9_tear_36 : decode cX9_tear 36 = .ok (.ldc 67, 2) := by decide +kernel
theorem dX9_tear_38 : decode cX9_tear 38 = .ok (.ireturn, 1) := by decide +kernel
theorem dX9_tear_39 : decode cX9_tear 39 = .ok (.aload_n 3, 1) := by decide +kernel
theorem dX9_tear_40 : decode cX9_tear 40 = .ok (.getfield 106, 3) := by decide +kernel
theorem dX9_tear_43 : decode cX9_tear 43 = .ok (.iload_n 2, 1) := by decide +kernel
theorem dX9_tear_44 : decode cX9_tear 44 = .ok (.baload, 1) := by decide +kernel
theorem dX9_tear_45 : decode cX9_tear 45 = .ok (.istore 4, 2) := by decide +kernel
theorem dX9_tear_47 : decode cX9_tear 47 = .ok (.aload_n 3, 1) := by decide +kernel
theorem dX9_tear_48 : decode cX9_tear 48 = .ok (.getfield 106, 3) := by decide +kernel
theorem dX9_tear_51 : decode cX9_tear 51 = .ok (.iload_n 2, 1) := by decide +kernel
theorem dX9_tear_52 : decode cX9_tear 52 = .ok (.iconst 0, 1) := by decide +kernel
theorem dX9_tear_53 : decode cX9_tear 53 = .ok (.bastore, 1) := by decide +kernel
theorem dX9_tear_54 : decode cX9_tear 54 = .ok (.iload 4, 2) := by decide +kernel
theorem dX9_tear_56 : decode cX9_tear 56 = .ok (.invokestatic 85, 3) := by decide +kernel
theorem dX9_tear_59 : decode cX9_tear 59 = .ok (.ireturn, 1) := by decide +kernel
set_option maxRecDepth 20000 in
theorem ggX9_hang_X9_within : GoodIn wsX9_hang wsX9_within := goodIn_r _ [11] (by decide +kernel) (by decide +kernel)
set_option maxRecDepth 20000 in
theorem gX9_hang_X9_within : GoodIn wsX9_hang (va_wsS RX9 63 yX9_within wsX9_within) := goodIn_app (goodIn_of _ (by decide +kernel)) ggX9_hang_X9_within
set_option maxRecDepth 20000 in
theorem ggX9_hang_X0_init : GoodIn wsX9_hang wsX0_init := goodIn_r _ [14, 15, 16, 17, 18, 36] (by decide +kernel) (by decide +kernel)
set_option maxRecDepth 20000 in
theorem gX9_hang_X0_init : GoodIn wsX9_hang (wsX0_init) := ggX9_hang_X0_init
theorem dX9_hang_0 : decode cX9_hang 0 = .ok (.iload_n 1, 1) := by decide +kernel
theorem dX9_hang_1 : decode cX9_hang 1 = .ok (.bipush 6, 2) := by decide +kernel
theorem dX9_hang_3 : decode cX9_hang 3 = .ok (.invokestatic 63, 3) := by decide +kernel
theorem dX9_hang_6 : decode cX9_hang 6 = .ok (.ifCond .ne 6, 3) := by decide +kernel
theorem dX9_hang_9 : decode cX9_hang 9 = .ok (.ldc 67, 2) := by decide +kernel
theorem dX9_hang_11 : decode cX9_hang 11 = .ok (.ireturn, 1) := by decide +kernel
theorem dX9_hang_12 : decode cX9_hang 12 = .ok (.aload_n 0, 1) := by decide +kernel
theorem dX9_hang_13 : decode cX9_hang 13 = .ok (.getfield 110, 3) := by decide +kernel
theorem dX9_hang_16 : decode cX9_hang 16 = .ok (.bipush 60, 2) := by decide +kernel
theorem dX9_hang_18 : decode cX9_hang 18 = .ok (.if_icmp .lt 6, 3) := by decide +kernel
theorem dX9_hang_21 : decode cX9_hang 21 = .ok (.ldc 72, 2) := by decide +kernel
theorem dX9_hang_23 : decode cX9_hang 23 = .ok (.ireturn, 1) := by decide +kernel
theorem dX9_hang_24 : decode cX9_hang 24 = .ok (.aload_n 0, 1) := by decide +kernel
theorem dX9_hang_25 : decode cX9_hang 25 = .ok (.getfield 41, 3) := by decide +kernel
theorem dX9_hang_28 : decode cX9_hang 28 = .ok (.iload_n 1, 1) := by decide +kernel
theorem dX9_hang_29 : decode cX9_hang 29 = .ok (.new 39, 3) := by decide +kernel
theorem dX9_hang_32 : decode cX9_hang 32 = .ok (.dup, 1) := by decide +kernel
theorem dX9_hang_33 : decode cX9_hang 33 = .ok (.iload_n 2, 1) := by decide +kernel
theorem dX9_hang_34 : decode cX9_hang 34 = .ok (.invokespecial 113, 3) := by decide +kernel
theorem dX9_hang_37 : decode cX9_hang 37 = .ok (.aastore, 1) := by decide +kernel
theorem dX9_hang_38 : decode cX9_hang 38 = .ok (.aload_n 0, 1) := by decide +kernel
theorem dX9_hang_39 : decode cX9_hang 39 = .ok (.dup, 1) := by decide +kernel
theorem dX9_hang_40 : decode cX9_hang 40 = .ok (.getfield 110, 3) := by decide +kernel
theorem dX9_hang_43 : decode cX9_hang 43 = .ok (.iconst 1, 1) := by decide +kernel
theorem dX9_hang_44 : decode cX9_hang 44 = .ok (.iadd, 1) := by decide +kernel
theorem dX9_hang_45 : decode cX9_hang 45 = .ok (.putfield 110, 3) := by decide +kernel
theorem dX9_hang_48 : decode cX9_hang 48 = .ok (.iconst 1, 1) := by decide +kernel
theorem dX9_hang_49 : decode cX9_hang 49 = .ok (.ireturn, 1) := by decide +kernel
set_option maxRecDepth 20000 in
theorem ggX9_act_X9_within : GoodIn wsX9_act wsX9_within := goodIn_r _ [5] (by decide +kernel) (by decide +kernel)
set_option maxRecDepth 20000 in
theorem gX9_act_X9_within : GoodIn wsX9_act (va_wsS RX9 63 yX9_within wsX9_within) := goodIn_app (goodIn_of _ (by decide +kernel)) ggX9_act_X9_within
set_option maxRecDepth 20000 in
theorem ggX9_act_X9_perform : GoodIn wsX9_act wsX9_perform := goodIn_r _ [9, 10, 11, 12, 13, 4, 14, 15, 16, 17, 18, 19, 20, 21, 22, 23, 24, 25, 26, 27, 28, 29, 30, 31, 32, 33, 34, 35, 36, 37, 38, 39, 40, 41, 42, 43, 44, 45, 46, 47, 48, 49, 50, 51, 52, 53, 54, 55, 56, 57, 58, 59, 60, 61, 62, 63, 64, 65, 66, 67, 68, 69, 70, 71, 72, 73, 74, 75, 76, 77, 78, 79, 80, 81, 82, 83, 84, 85, 86, 87, 88, 89, 90, 91, 92, 93, 94, 95, 96, 97, 98, 99, 100, 101, 102, 103, 104, 105, 106, 107, 108, 109, 110, 111, 112, 113, 114, 115, 116, 117, 118, 119, 120, 121, 122, 123, 124, 125, 126, 127, 128, 129, 130, 131, 132, 133, 134, 135, 136, 137, 138, 139, 140, 141, 142, 143, 2, 3, 5, 144, 145, 146, 147, 148, 149, 150, 151, 152, 153, 154, 155, 156, 157, 158, 159, 160, 161, 162, 163, 164, 165, 166, 167, 168, 169, 170, 171, 172, 173, 174, 175, 176, 177, 178, 179, 180, 181, 182, 183, 184, 185, 186, 187, 188, 189, 190, 191, 192, 193, 194, 195, 196, 197, 198, 199, 200, 201, 202, 203, 204, 205, 206, 207, 208, 209, 210, 211, 212, 213, 214, 215, 216, 217, 218, 219, 220, 221, 222, 223, 224, 225, 226, 227, 228, 229, 230, 231, 232, 233, 234, 235, 236, 237, 238, 239, 240, 241, 242, 243, 244, 245, 246, 247, 248, 249, 250, 251, 252, 253, 254, 255, 256, 257, 258, 259, 260, 261, 262, 263, 264, 265, 266, 267, 268, 269, 270, 271, 272, 273, 274, 275, 276, 277, 278, 279, 280, 281, 282, 283, 284, 285, 286, 287, 288, 289, 290, 291, 292, 293, 294, 295, 296, 297, 298, 299, 300] (by decide +kernel) (by decide +kernel)
set_option maxRecDepth 20000 in
theorem gX9_act_X9_perform : GoodIn wsX9_act (wsV RX9 114 RX9 yX9_perform wsX9_perform) := goodIn_app (goodIn_of _ (by decide +kernel)) ggX9_act_X9_perform
theorem dX9_act_0 : decode cX9_act 0 = .ok (.iload_n 1, 1) := by decide +kernel
theorem dX9_act_1 : decode cX9_act 1 = .ok (.bipush 18, 2) := by decide +kernel
theorem dX9_act_3 : decode cX9_act 3 = .ok (.invokestatic 63, 3) := by decide +kernel
theorem dX9_act_6 : decode cX9_act 6 = .ok (.ifCond .ne 6, 3) := by decide +kernel
theorem dX9_act_9 : decode cX9_act 9 = .ok (.ldc 67, 2) := by decide +kernel
theorem dX9_act_11 : decode cX9_act 11 = .ok (.ireturn, 1) := by decide +kernel
theorem dX9_act_12 : decode cX9_act 12 = .ok (.aload_n 0, 1) := by decide +kernel
theorem dX9_act_13 : decode cX9_act 13 = .ok (.iload_n 1, 1) := by decide +kernel
theorem dX9_act_14 : decode cX9_act 14 = .ok (.iload_n 2, 1) := by decide +kernel
theorem dX9_act_15 : decode cX9_act 15 = .ok (.iload_n 3, 1) := by decide +kernel
theorem dX9_act_16 : decode cX9_act 16 = .ok (.iload 4, 2) := by decide +kernel
theorem dX9_act_18 : decode cX9_act 18 = .ok (.invokevirtual 114, 3) := by decide +kernel
theorem dX9_act_21 : decode cX9_act 21 = .ok (.istore 5, 2) := by decide +kernel
theorem dX9_act_23 : decode cX9_act 23 = .ok (.iload 5, 2) := by decide +kernel
theorem dX9_act_25 : decode cX9_act 25 = .ok (.ifCond .ne 7, 3) := by decide +kernel
theorem dX9_act_28 : decode cX9_act 28 = .ok (.iconst 1, 1) := by decide +kernel
theorem dX9_act_29 : decode cX9_act 29 = .ok (.goto 8, 3) := by decide +kernel
theorem dX9_act_32 : decode cX9_act 32 = .ok (.bipush (-10), 2) := by decide +kernel
theorem dX9_act_34 : decode cX9_act 34 = .ok (.iload 5, 2) := by decide +kernel
theorem dX9_act_36 : decode cX9_act 36 = .ok (.isub, 1) := by decide +kernel
theorem dX9_act_37 : decode cX9_act 37 = .ok (.ireturn, 1) := by decide +kernel
theorem dX9_came_0 : decode cX9_came 0 = .ok (.aload_n 0, 1) := by decide +kernel
theorem dX9_came_1 : decode cX9_came 1 = .ok (.getfield 118, 3) := by decide +kernel
theorem dX9_came_4 : decode cX9_came 4 = .ok (.ireturn, 1) := by decide +kernel
set_option maxRecDepth 20000 in
theorem ggX9_task_X9_within : GoodIn wsX9_task wsX9_within := goodIn_r _ [8] (by decide +kernel) (by decide +kernel)
set_option maxRecDepth 20000 in
theorem gX9_task_X9_within : GoodIn wsX9_task (va_wsS RX9 63 yX9_within wsX9_within) := goodIn_app (goodIn_of _ (by decide +kernel)) ggX9_task_X9_within
theorem dX9_task_0 : decode cX9_task 0 = .ok (.iload_n 1, 1) := by decide +kernel
theorem dX9_task_1 : decode cX9_task 1 = .ok (.bipush 18, 2) := by decide +kernel
theorem dX9_task_3 : decode cX9_task 3 = .ok (.invokestatic 63, 3) := by decide +kernel
theorem dX9_task_6 : decode cX9_task 6 = .ok (.ifCond .ne 6, 3) := by decide +kernel
theorem dX9_task_9 : decode cX9_task 9 = .ok (.ldc 67, 2) := by decide +kernel
theorem dX9_task_11 : decode cX9_task 11 = .ok (.ireturn, 1) := by decide +kernel
theorem dX9_task_12 : decode cX9_task 12 = .ok (.aload_n 0, 1) := by decide +kernel
theorem dX9_task_13 : decode cX9_task 13 = .ok (.getfield 121, 3) := by decide +kernel
theorem dX9_task_16 : decode cX9_task 16 = .ok (.bipush 20, 2) := by decide +kernel
theorem dX9_task_18 : decode cX9_task 18 = .ok (.if_icmp .lt 6, 3) := by decide +kernel
theorem dX9_task_21 : decode cX9_task 21 = .ok (.ldc 72, 2) := by decide +kernel
theorem dX9_task_23 : decode cX9_task 23 = .ok (.ireturn, 1) := by decide +kernel
theorem dX9_task_24 : decode cX9_task 24 = .ok (.aload_n 0, 1) := by decide +kernel
theorem dX9_task_25 : decode cX9_task 25 = .ok (.getfield 47, 3) := by decide +kernel
theorem dX9_task_28 : decode cX9_task 28 = .ok (.aload_n 0, 1) := by decide +kernel
theorem dX9_task_29 : decode cX9_task 29 = .ok (.getfield 121, 3) := by decide +kernel
theorem dX9_task_32 : decode cX9_task 32 = .ok (.aaload, 1) := by decide +kernel
theorem dX9_task_33 : decode cX9_task 33 = .ok (.astore 5, 2) := by decide +kernel
theorem dX9_task_35 : decode cX9_task 35 = .ok (.aload 5, 2) := by decide +kernel
theorem dX9_task_37 : decode cX9_task 37 = .ok (.iconst 0, 1) := by decide +kernel
theorem dX9_task_38 : decode cX9_task 38 = .ok (.iload_n 1, 1) := by decide +kernel
theorem dX9_task_39 : decode cX9_task 39 = .ok (.iastore, 1) := by decide +kernel
theorem dX9_task_40 : decode cX9_task 40 = .ok (.aload 5, 2) := by decide +kernel
theorem dX9_task_42 : decode cX9_task 42 = .ok (.iconst 1, 1) := by decide +kernel
theorem dX9_task_43 : decode cX9_task 43 = .ok (.iload_n 2, 1) := by decide +kernel
theorem dX9_task_44 : decode cX9_task 44 = .ok (.iastore, 1) := by decide +kernel
theorem dX9_task_45 : decode cX9_task 45 = .ok (.aload 5, 2) := by decide +kernel
theorem dX9_task_47 : decode cX9_task 47 = .ok (.iconst 2, 1) := by decide +kernel
theorem dX9_task_48 : decode cX9_task 48 = .ok (.iload_n 3, 1) := by decide +kernel
theorem dX9_task_49 : decode cX9_task 49 = .ok (.iastore, 1) := by decide +kernel
theorem dX9_task_50 : decode cX9_task 50 = .ok (.aload 5, 2) := by decide +kernel
theorem dX9_task_52 : decode cX9_task 52 = .ok (.iconst 3, 1) := by decide +kernel
theorem dX9_task_53 : decode cX9_task 53 = .ok (.iload 4, 2) := by decide +kernel
theorem dX9_task_55 : decode cX9_task 55 = .ok (.iastore, 1) := by decide +kernel
theorem dX9_task_56 : decode cX9_task 56 = .ok (.aload_n 0, 1) := by decide +kernel
theorem dX9_task_57 : decode cX9_task 57 = .ok (.dup, 1) := by decide +kernel
theorem dX9_task_58 : decode cX9_task 58 = .ok (.getfield 121, 3) := by decide +kernel
theorem dX9_task_61 : decode cX9_task 61 = .ok (.iconst 1, 1) := by decide +kernel
theorem dX9_task_62 : decode cX9_task 62 = .ok (.iadd, 1) := by decide +kernel
theorem dX9_task_63 : decode cX9_task 63 = .ok (.putfield 121, 3) := by decide +kernel
theorem dX9_task_66 : decode cX9_task 66 = .ok (.aload_n 0, 1) := by decide +kernel
theorem dX9_task_67 : decode cX9_task 67 = .ok (.getfield 121, 3) := by decide +kernel
theorem dX9_task_70 : decode cX9_task 70 = .ok (.ireturn, 1) := by decide +kernel
theorem dX9_clear_0 : decode cX9_clear 0 = .ok (.aload_n 0, 1) := by decide +kernel
theorem dX9_clear_1 : decode cX9_clear 1 = .ok (.getfield 121, 3) := by decide +kernel
theorem dX9_clear_4 : decode cX9_clear 4 = .ok (.istore_n 1, 1) := by decide +kernel
theorem dX9_clear_5 : decode cX9_clear 5 = .ok (.aload_n 0, 1) := by decide +kernel
theorem dX9_clear_6 : decode cX9_clear 6 = .ok (.iconst 0, 1) := by decide +kernel
theorem dX9_clear_7 : decode cX9_clear 7 = .ok (.putfield 121, 3) := by decide +kernel
theorem dX9_clear_10 : decode cX9_clear 10 = .ok (.iload_n 1, 1) := by decide +kernel
theorem dX9_clear_11 : decode cX9_clear 11 = .ok (.ireturn, 1) := by decide +kernel
set_option maxRecDepth 20000 in
theorem ggX9_day_X9_perform : GoodIn wsX9_day wsX9_perform := goodIn_r _ [7, 8, 9, 10, 11, 6, 12, 13, 14, 15, 16, 17, 18, 19, 20, 21, 22, 23, 24, 25, 26, 27, 28, 29, 30, 31, 32, 33, 34, 35, 36, 37, 38, 39, 40, 41, 42, 43, 44, 45, 46, 47, 48, 49, 50, 51, 52, 53, 54, 55, 56, 57, 58, 59, 60, 61, 62, 63, 64, 65, 66, 67, 68, 69, 70, 71, 72, 73, 74, 75, 76, 77, 78, 79, 80, 81, 82, 83, 84, 85, 86, 87, 88, 89, 90, 91, 92, 93, 94, 95, 96, 97, 98, 99, 100, 101, 102, 103, 104, 105, 106, 107, 108, 109, 110, 111, 112, 113, 114, 115, 116, 117, 118, 119, 120, 121, 122, 123, 124, 125, 126, 127, 128, 129, 130, 131, 132, 133, 134, 135, 136, 137, 138, 139, 140, 141, 142, 143, 144, 145, 146, 147, 148, 149, 150, 151, 152, 153, 154, 155, 156, 157, 158, 159, 160, 161, 162, 163, 164, 165, 166, 167, 168, 169, 170, 171, 172, 173, 174, 175, 176, 177, 178, 179, 180, 181, 182, 183, 184, 185, 186, 187, 188, 189, 190, 191, 192, 193, 194, 195, 196, 197, 198, 199, 200, 201, 202, 203, 204, 205, 206, 207, 208, 209, 210, 211, 212, 213, 214, 215, 216, 217, 218, 219, 220, 221, 222, 223, 224, 225, 226, 227, 228, 229, 230, 231, 232, 233, 234, 235, 236, 237, 238, 239, 240, 241, 242, 243, 244, 245, 246, 247, 248, 249, 250, 251, 252, 253, 254, 263, 264, 265, 266, 267, 268, 269, 270, 271, 272, 273, 274, 275, 276, 277, 278, 279, 280, 281, 282, 283, 284, 285, 286, 287, 288, 289, 290, 291, 292, 293, 294, 295, 296, 297, 298, 299, 300, 301, 302, 303, 304, 305, 306, 307, 308, 309] (by decide +kernel) (by decide +kernel)
set_option maxRecDepth 20000 in
theorem gX9_day_X9_perform : GoodIn wsX9_day (wsV RX9 114 RX9 yX9_perform wsX9_perform) := goodIn_app (goodIn_of _ (by decide +kernel)) ggX9_day_X9_perform
set_option maxRecDepth 20000 in
theorem ggX9_day_X9_putDown : GoodIn wsX9_day wsX9_putDown := goodIn_r _ [258, 259, 260, 261, 262, 263, 264, 265, 266, 267, 268, 269, 270, 271, 272, 273, 274, 275, 276, 277, 278, 279] (by decide +kernel) (by decide +kernel)
set_option maxRecDepth 20000 in
theorem gX9_day_X9_putDown : GoodIn wsX9_day (wsV RX9 124 RX9 yX9_putDown wsX9_putDown) := goodIn_app (goodIn_of _ (by decide +kernel)) ggX9_day_X9_putDown
theorem dX9_day_0 : decode cX9_day 0 = .ok (.iconst 0, 1) := by decide +kernel
theorem dX9_day_1 : decode cX9_day 1 = .ok (.istore_n 1, 1) := by decide +kernel
theorem dX9_day_2 : decode cX9_day 2 = .ok (.iconst 0, 1) := by decide +kernel
theorem dX9_day_3 : decode cX9_day 3 = .ok (.istore_n 2, 1) := by decide +kernel
theorem dX9_day_4 : decode cX9_day 4 = .ok (.iload_n 2, 1) := by decide +kernel
theorem dX9_day_5 : decode cX9_day 5 = .ok (.aload_n 0, 1) := by decide +kernel
theorem dX9_day_6 : decode cX9_day 6 = .ok (.getfield 121, 3) := by decide +kernel
theorem dX9_day_9 : decode cX9_day 9 = .ok (.if_icmp .ge 61, 3) := by decide +kernel
theorem dX9_day_12 : decode cX9_day 12 = .ok (.aload_n 0, 1) := by decide +kernel
theorem dX9_day_13 : decode cX9_day 13 = .ok (.getfield 47, 3) := by decide +kernel
theorem dX9_day_16 : decode cX9_day 16 = .ok (.iload_n 2, 1) := by decide +kernel
theorem dX9_day_17 : decode cX9_day 17 = .ok (.aaload, 1) := by decide +kernel
theorem dX9_day_18 : decode cX9_day 18 = .ok (.astore_n 3, 1) := by decide +kernel
theorem dX9_day_19 : decode cX9_day 19 = .ok (.aload_n 0, 1) := by decide +kernel
theorem dX9_day_20 : decode cX9_day 20 = .ok (.aload_n 3, 1) := by decide +kernel
theorem dX9_day_21 : decode cX9_day 21 = .ok (.iconst 0, 1) := by decide +kernel
theorem dX9_day_22 : decode cX9_day 22 = .ok (.iaload, 1) := by decide +kernel
theorem dX9_day_23 : decode cX9_day 23 = .ok (.aload_n 3, 1) := by decide +kernel
theorem dX9_day_24 : decode cX9_day 24 = .ok (.iconst 1, 1) := by decide +kernel
theorem dX9_day_25 : decode cX9_day 25 = .ok (.iaload, 1) := by decide +kernel
theorem dX9_day_26 : decode cX9_day 26 = .ok (.aload_n 3, 1) := by decide +kernel
theorem dX9_day_27 : decode cX9_day 27 = .ok (.iconst 2, 1) := by decide +kernel
theorem dX9_day_28 : decode cX9_day 28 = .ok (.iaload, 1) := by decide +kernel
theorem dX9_day_29 : decode cX9_day 29 = .ok (.aload_n 3, 1) := by decide +kernel
theorem dX9_day_30 : decode cX9_day 30 = .ok (.iconst 3, 1) := by decide +kernel
theorem dX9_day_31 : decode cX9_day 31 = .ok (.iaload, 1) := by decide +kernel
theorem dX9_day_32 : decode cX9_day 32 = .ok (.invokevirtual 114, 3) := by decide +kernel
theorem dX9_day_35 : decode cX9_day 35 = .ok (.istore 4, 2) := by decide +kernel
theorem dX9_day_37 : decode cX9_day 37 = .ok (.iload 4, 2) := by decide +kernel
theorem dX9_day_39 : decode cX9_day 39 = .ok (.ifCond .eq 13, 3) := by decide +kernel
theorem dX9_day_42 : decode cX9_day 42 = .ok (.iinc 1 1, 3) := by decide +kernel
theorem dX9_day_45 : decode cX9_day 45 = .ok (.aload_n 0, 1) := by decide +kernel
theorem dX9_day_46 : decode cX9_day 46 = .ok (.iload_n 2, 1) := by decide +kernel
theorem dX9_day_47 : decode cX9_day 47 = .ok (.iload 4, 2) := by decide +kernel
theorem dX9_day_49 : decode cX9_day 49 = .ok (.invokevirtual 124, 3) := by decide +kernel
theorem dX9_day_52 : decode cX9_day 52 = .ok (.iload 4, 2) := by decide +kernel
theorem dX9_day_54 : decode cX9_day 54 = .ok (.bipush 6, 2) := by decide +kernel
theorem dX9_day_56 : decode cX9_day 56 = .ok (.if_icmp .ne 8, 3) := by decide +kernel
theorem dX9_day_59 : decode cX9_day 59 = .ok (.bipush (-10), 2) := by decide +kernel
theorem dX9_day_61 : decode cX9_day 61 = .ok (.iload_n 1, 1) := by decide +kernel
theorem dX9_day_62 : decode cX9_day 62 = .ok (.isub, 1) := by decide +kernel
theorem dX9_day_63 : decode cX9_day 63 = .ok (.ireturn, 1) := by decide +kernel
theorem dX9_day_64 : decode cX9_day 64 = .ok (.iinc 2 1, 3) := by decide +kernel
theorem dX9_day_67 : decode cX9_day 67 = .ok (.goto (-63), 3) := by decide +kernel
theorem dX9_day_70 : decode cX9_day 70 = .ok (.aload_n 0, 1) := by decide +kernel
theorem dX9_day_71 : decode cX9_day 71 = .ok (.getfield 121, 3) := by decide +kernel
theorem dX9_day_74 : decode cX9_day 74 = .ok (.iload_n 1, 1) := by decide +kernel
theorem dX9_day_75 : decode cX9_day 75 = .ok (.isub, 1) := by decide +kernel
theorem dX9_day_76 : decode cX9_day 76 = .ok (.ireturn, 1) := by decide +kernel
set_option maxRecDepth 20000 in
theorem ggX9_book_X9_within : GoodIn wsX9_book wsX9_within := goodIn_r _ [8] (by decide +kernel) (by decide +kernel)
set_option maxRecDepth 20000 in
theorem gX9_book_X9_within : GoodIn wsX9_book (va_wsS RX9 63 yX9_within wsX9_within) := goodIn_app (goodIn_of _ (by decide +kernel)) ggX9_book_X9_within
theorem dX9_book_0 : decode cX9_book 0 = .ok (.iload_n 1, 1) := by decide +kernel
theorem dX9_book_1 : decode cX9_book 1 = .ok (.aload_n 0, 1) := by decide +kernel
theorem dX9_book_2 : decode cX9_book 2 = .ok (.getfield 127, 3) := by decide +kernel
theorem dX9_book_5 : decode cX9_book 5 = .ok (.invokestatic 63, 3) := by decide +kernel
theorem dX9_book_8 : decode cX9_book 8 = .ok (.ifCond .ne 6, 3) := by decide +kernel
theorem dX9_book_11 : decode cX9_book 11 = .ok (.ldc 67, 2) := by decide +kernel
theorem dX9_book_13 : decode cX9_book 13 = .ok (.ireturn, 1) := by decide +kernel
theorem dX9_book_14 : decode cX9_book 14 = .ok (.iload_n 2, 1) := by decide +kernel
theorem dX9_book_15 : decode cX9_book 15 = .ok (.lookupswitch 39 #[(0, 25), (1, 32)], 25) := by decide +kernel
theorem dX9_book_40 : decode cX9_book 40 = .ok (.aload_n 0, 1) := by decide +kernel
theorem dX9_book_41 : decode cX9_book 41 = .ok (.getfield 50, 3) := by decide +kernel
theorem dX9_book_44 : decode cX9_book 44 = .ok (.iload_n 1, 1) := by decide +kernel
theorem dX9_book_45 : decode cX9_book 45 = .ok (.iaload, 1) := by decide +kernel
theorem dX9_book_46 : decode cX9_book 46 = .ok (.ireturn, 1) := by decide +kernel
theorem dX9_book_47 : decode cX9_book 47 = .ok (.aload_n 0, 1) := by decide +kernel
theorem dX9_book_48 : decode cX9_book 48 = .ok (.getfield 54, 3) := by decide +kernel
theorem dX9_book_51 : decode cX9_book 51 = .ok (.iload_n 1, 1) := by decide +kernel
theorem dX9_book_52 : decode cX9_book 52 = .ok (.iaload, 1) := by decide +kernel
theorem dX9_book_53 : decode cX9_book 53 = .ok (.ireturn, 1) := by decide +kernel
theorem dX9_book_54 : decode cX9_book 54 = .ok (.ldc 67, 2) := by decide +kernel
theorem dX9_book_56 : decode cX9_book 56 = .ok (.ireturn, 1) := by decide +kernel
set_option maxRecDepth 20000 in
theorem ggX9_horseTells_X9_within : GoodIn wsX9_horseTells wsX9_within := goodIn_r _ [11] (by decide +kernel) (by decide +kernel)
set_option maxRecDepth 20000 in
theorem gX9_horseTells_X9_within : GoodIn wsX9_horseTells (va_wsS RX9 63 yX9_within wsX9_within) := goodIn_app (goodIn_of _ (by decide +kernel)) ggX9_horseTells_X9_within
set_option maxRecDepth 20000 in
theorem ggX9_horseTells_X1_kindNumber : GoodIn wsX9_horseTells wsX1_kindNumber := goodIn_r _ [18] (by decide +kernel) (by decide +kernel)
set_option maxRecDepth 20000 in
theorem gX9_horseTells_X1_kindNumber_u130X1 : GoodIn wsX9_horseTells (va_wsO RX9 130 RX1 "RidingYard$Horse" ⟨"RidingYard$Horse", "kindNumber", "()I"⟩ yX1_kindNumber wsX1_kindNumber) := goodIn_app (goodIn_of _ (by decide +kernel)) ggX9_horseTells_X1_kindNumber
set_option maxRecDepth 20000 in
theorem ggX9_horseTells_X2_kindNumber : GoodIn wsX9_horseTells wsX2_kindNumber := goodIn_r _ [19] (by decide +kernel) (by decide +kernel)
set_option maxRecDepth 20000 in
theorem gX9_horseTells_X2_kindNumber : GoodIn wsX9_horseTells (wsV RX9 130 RX2 yX2_kindNumber wsX2_kindNumber) := goodIn_app (goodIn_of _ (by decide +kernel)) ggX9_horseTells_X2_kindNumber
set_option maxRecDepth 20000 in
theorem ggX9_horseTells_X3_kindNumber : GoodIn wsX9_horseTells wsX3_kindNumber := goodIn_r _ [27] (by decide +kernel) (by decide +kernel)
set_option maxRecDepth 20000 in
theorem gX9_horseTells_X3_kindNumber_u130X3 : GoodIn wsX9_horseTells (va_wsO RX9 130 RX3 "RidingYard$Horse" ⟨"RidingYard$Horse", "kindNumber", "()I"⟩ yX3_kindNumber wsX3_kindNumber) := goodIn_app (goodIn_of _ (by decide +kernel)) ggX9_horseTells_X3_kindNumber
theorem dX9_horseTells_0 : decode cX9_horseTells 0 = .ok (.iload_n 1, 1) := by decide +kernel
theorem dX9_horseTells_1 : decode cX9_horseTells 1 = .ok (.bipush 10, 2) := by decide +kernel
theorem dX9_horseTells_3 : decode cX9_horseTells 3 = .ok (.invokestatic 63, 3) := by decide +kernel
theorem dX9_horseTells_6 : decode cX9_horseTells 6 = .ok (.ifCond .ne 6, 3) := by decide +kernel
theorem dX9_horseTells_9 : decode cX9_horseTells 9 = .ok (.ldc 67, 2) := by decide +kernel
theorem dX9_horseTells_11 : decode cX9_horseTells 11 = .ok (.ireturn, 1) := by decide +kernel
theorem dX9_horseTells_12 : decode cX9_horseTells 12 = .ok (.aload_n 0, 1) := by decide +kernel
theorem dX9_horseTells_13 : decode cX9_horseTells 13 = .ok (.getfield 11, 3) := by decide +kernel
theorem dX9_horseTells_16 : decode cX9_horseTells 16 = .ok (.iload_n 1, 1) := by decide +kernel
theorem dX9_horseTells_17 : decode cX9_horseTells 17 = .ok (.aaload, 1) := by decide +kernel
theorem dX9_horseTells_18 : decode cX9_horseTells 18 = .ok (.astore_n 3, 1) := by decide +kernel
theorem dX9_horseTells_19 : decode cX9_horseTells 19 = .ok (.aload_n 3, 1) := by decide +kernel
theorem dX9_horseTells_20 : decode cX9_horseTells 20 = .ok (.ifnonnull 6, 3) := by decide +kernel
theorem dX9_horseTells_23 : decode cX9_horseTells 23 = .ok (.ldc 67, 2) := by decide +kernel
theorem dX9_horseTells_25 : decode cX9_horseTells 25 = .ok (.ireturn, 1) := by decide +kernel
theorem dX9_horseTells_26 : decode cX9_horseTells 26 = .ok (.iload_n 2, 1) := by decide +kernel
theorem dX9_horseTells_27 : decode cX9_horseTells 27 = .ok (.tableswitch 67 0 5 #[37, 42, 47, 52, 57, 62], 37) := by decide +kernel
theorem dX9_horseTells_64 : decode cX9_horseTells 64 = .ok (.aload_n 3, 1) := by decide +kernel
theorem dX9_horseTells_65 : decode cX9_horseTells 65 = .ok (.invokevirtual 130, 3) := by decide +kernel
theorem dX9_horseTells_68 : decode cX9_horseTells 68 = .ok (.ireturn, 1) := by decide +kernel
theorem dX9_horseTells_69 : decode cX9_horseTells 69 = .ok (.aload_n 3, 1) := by decide +kernel
theorem dX9_horseTells_70 : decode cX9_horseTells 70 = .ok (.getfield 134, 3) := by decide +kernel
theorem dX9_horseTells_73 : decode cX9_horseTells 73 = .ok (.ireturn, 1) := by decide +kernel
theorem dX9_horseTells_74 : decode cX9_horseTells 74 = .ok (.aload_n 3, 1) := by decide +kernel
theorem dX9_horseTells_75 : decode cX9_horseTells 75 = .ok (.getfield 137, 3) := by decide +kernel
theorem dX9_horseTells_78 : decode cX9_horseTells 78 = .ok (.ireturn, 1) := by decide +kernel
theorem dX9_horseTells_79 : decode cX9_horseTells 79 = .ok (.aload_n 3, 1) := by decide +kernel
theorem dX9_horseTells_80 : decode cX9_horseTells 80 = .ok (.getfield 140, 3) := by decide +kernel
theorem dX9_horseTells_83 : decode cX9_horseTells 83 = .ok (.ireturn, 1) := by decide +kernel
theorem dX9_horseTells_84 : decode cX9_horseTells 84 = .ok (.aload_n 3, 1) := by decide +kernel
theorem dX9_horseTells_85 : decode cX9_horseTells 85 = .ok (.getfield 143, 3) := by decide +kernel
theorem dX9_horseTells_88 : decode cX9_horseTells 88 = .ok (.ireturn, 1) := by decide +kernel
theorem dX9_horseTells_89 : decode cX9_horseTells 89 = .ok (.aload_n 3, 1) := by decide +kernel
theorem dX9_horseTells_90 : decode cX9_horseTells 90 = .ok (.getfield 146, 3) := by decide +kernel
theorem dX9_horseTells_93 : decode cX9_horseTells 93 = .ok (.ireturn, 1) := by decide +kernel
theorem dX9_horseTells_94 : decode cX9_horseTells 94 = .ok (.ldc 67, 2) := by decide +kernel
theorem dX9_horseTells_96 : decode cX9_horseTells 96 = .ok (.ireturn, 1) := by decide +kernel
set_option maxRecDepth 20000 in
theorem ggX9_shed_X9_within : GoodIn wsX9_shed wsX9_within := goodIn_r _ [7] (by decide +kernel) (by decide +kernel)
set_option maxRecDepth 20000 in
theorem gX9_shed_X9_within : GoodIn wsX9_shed (va_wsS RX9 63 yX9_within wsX9_within) := goodIn_app (goodIn_of _ (by decide +kernel)) ggX9_shed_X9_within
theorem dX9_shed_0 : decode cX9_shed 0 = .ok (.iload_n 1, 1) := by decide +kernel
theorem dX9_shed_1 : decode cX9_shed 1 = .ok (.bipush 6, 2) := by decide +kernel
theorem dX9_shed_3 : decode cX9_shed 3 = .ok (.invokestatic 63, 3) := by decide +kernel
theorem dX9_shed_6 : decode cX9_shed 6 = .ok (.ifCond .ne 6, 3) := by decide +kernel
theorem dX9_shed_9 : decode cX9_shed 9 = .ok (.ldc 67, 2) := by decide +kernel
theorem dX9_shed_11 : decode cX9_shed 11 = .ok (.ireturn, 1) := by decide +kernel
theorem dX9_shed_12 : decode cX9_shed 12 = .ok (.aload_n 0, 1) := by decide +kernel
theorem dX9_shed_13 : decode cX9_shed 13 = .ok (.getfield 17, 3) := by decide +kernel
theorem dX9_shed_16 : decode cX9_shed 16 = .ok (.iload_n 1, 1) := by decide +kernel
theorem dX9_shed_17 : decode cX9_shed 17 = .ok (.aaload, 1) := by decide +kernel
theorem dX9_shed_18 : decode cX9_shed 18 = .ok (.astore_n 2, 1) := by decide +kernel
theorem dX9_shed_19 : decode cX9_shed 19 = .ok (.aload_n 2, 1) := by decide +kernel
theorem dX9_shed_20 : decode cX9_shed 20 = .ok (.ifnonnull 5, 3) := by decide +kernel
theorem dX9_shed_23 : decode cX9_shed 23 = .ok (.iconst 0, 1) := by decide +kernel
theorem dX9_shed_24 : decode cX9_shed 24 = .ok (.ireturn, 1) := by decide +kernel
theorem dX9_shed_25 : decode cX9_shed 25 = .ok (.aload_n 2, 1) := by decide +kernel
theorem dX9_shed_26 : decode cX9_shed 26 = .ok (.instanceof 9, 3) := by decide +kernel
theorem dX9_shed_29 : decode cX9_shed 29 = .ok (.ifCond .eq 7, 3) := by decide +kernel
theorem dX9_shed_32 : decode cX9_shed 32 = .ok (.iconst 1, 1) := by decide +kernel
theorem dX9_shed_33 : decode cX9_shed 33 = .ok (.goto 4, 3) := by decide +kernel
theorem dX9_shed_36 : decode cX9_shed 36 = .ok (.iconst 2, 1) := by decide +kernel
theorem dX9_shed_37 : decode cX9_shed 37 = .ok (.ireturn, 1) := by decide +kernel
set_option maxRecDepth 20000 in
theorem ggX9_same_X9_within : GoodIn wsX9_same wsX9_within := goodIn_r _ [6] (by decide +kernel) (by decide +kernel)
set_option maxRecDepth 20000 in
theorem gX9_same_X9_within : GoodIn wsX9_same (va_wsS RX9 63 yX9_within wsX9_within) := goodIn_app (goodIn_of _ (by decide +kernel)) ggX9_same_X9_within
set_option maxRecDepth 20000 in
theorem ggX9_same_X9_oneIf : GoodIn wsX9_same wsX9_oneIf := goodIn_r _ [9] (by decide +kernel) (by decide +kernel)
set_option maxRecDepth 20000 in
theorem gX9_same_X9_oneIf : GoodIn wsX9_same (va_wsS RX9 85 yX9_oneIf wsX9_oneIf) := goodIn_app (goodIn_of _ (by decide +kernel)) ggX9_same_X9_oneIf
theorem dX9_same_0 : decode cX9_same 0 = .ok (.iload_n 1, 1) := by decide +kernel
theorem dX9_same_1 : decode cX9_same 1 = .ok (.bipush 10, 2) := by decide +kernel
theorem dX9_same_3 : decode cX9_same 3 = .ok (.invokestatic 63, 3) := by decide +kernel
theorem dX9_same_6 : decode cX9_same 6 = .ok (.ifCond .eq 12, 3) := by decide +kernel
theorem dX9_same_9 : decode cX9_same 9 = .ok (.iload_n 2, 1) := by decide +kernel
theorem dX9_same_10 : decode cX9_same 10 = .ok (.bipush 10, 2) := by decide +kernel
theorem dX9_same_12 : decode cX9_same 12 = .ok (.invokestatic 63, 3) := by decide +kernel
theorem dX9_same_15 : decode cX9_same 15 = .ok (.ifCond .ne 6, 3) := by decide +kernel
theorem dX9_same_18 : decode cX9_same 18 = .ok (.ldc 67, 2) := by decide +kernel
theorem dX9_same_20 : decode cX9_same 20 = .ok (.ireturn, 1) := by decide +kernel
theorem dX9_same_21 : decode cX9_same 21 = .ok (.aload_n 0, 1) := by decide +kernel
theorem dX9_same_22 : decode cX9_same 22 = .ok (.getfield 11, 3) := by decide +kernel
theorem dX9_same_25 : decode cX9_same 25 = .ok (.iload_n 1, 1) := by decide +kernel
theorem dX9_same_26 : decode cX9_same 26 = .ok (.aaload, 1) := by decide +kernel
theorem dX9_same_27 : decode cX9_same 27 = .ok (.aload_n 0, 1) := by decide +kernel
theorem dX9_same_28 : decode cX9_same 28 = .ok (.getfield 11, 3) := by decide +kernel
theorem dX9_same_31 : decode cX9_same 31 = .ok (.iload_n 2, 1) := by decide +kernel
theorem dX9_same_32 : decode cX9_same 32 = .ok (.aaload, 1) := by decide +kernel
theorem dX9_same_33 : decode cX9_same 33 = .ok (.if_acmp .ne 7, 3) := by decide +kernel
theorem dX9_same_36 : decode cX9_same 36 = .ok (.iconst 1, 1) := by decide +kernel
theorem dX9_same_37 : decode cX9_same 37 = .ok (.goto 4, 3) := by decide +kernel
theorem dX9_same_40 : decode cX9_same 40 = .ok (.iconst 0, 1) := by decide +kernel
theorem dX9_same_41 : decode cX9_same 41 = .ok (.invokestatic 85, 3) := by decide +kernel
theorem dX9_same_44 : decode cX9_same 44 = .ok (.ireturn, 1) := by decide +kernel
theorem dX9_count_0 : decode cX9_count 0 = .ok (.iload_n 1, 1) := by decide +kernel
theorem dX9_count_1 : decode cX9_count 1 = .ok (.tableswitch 60 0 4 #[35, 40, 45, 50, 55], 35) := by decide +kernel
theorem dX9_count_36 : decode cX9_count 36 = .ok (.aload_n 0, 1) := by decide +kernel
theorem dX9_count_37 : decode cX9_count 37 = .ok (.getfield 68, 3) := by decide +kernel
theorem dX9_count_40 : decode cX9_count 40 = .ok (.ireturn, 1) := by decide +kernel
theorem dX9_count_41 : decode cX9_count 41 = .ok (.aload_n 0, 1) := by decide +kernel
theorem dX9_count_42 : decode cX9_count 42 = .ok (.getfield 77, 3) := by decide +kernel
theorem dX9_count_45 : decode cX9_count 45 = .ok (.ireturn, 1) := by decide +kernel
theorem dX9_count_46 : decode cX9_count 46 = .ok (.aload_n 0, 1) := by decide +kernel
theorem dX9_count_47 : decode cX9_count 47 = .ok (.getfield 110, 3) := by decide +kernel
theorem dX9_count_50 : decode cX9_count 50 = .ok (.ireturn, 1) := by decide +kernel
theorem dX9_count_51 : decode cX9_count 51 = .ok (.aload_n 0, 1) := by decide +kernel
theorem dX9_count_52 : decode cX9_count 52 = .ok (.getfield 121, 3) := by decide +kernel
theorem dX9_count_55 : decode cX9_count 55 = .ok (.ireturn, 1) := by decide +kernel
theorem dX9_count_56 : decode cX9_count 56 = .ok (.aload_n 0, 1) := by decide +kernel
theorem dX9_count_57 : decode cX9_count 57 = .ok (.getfield 149, 3) := by decide +kernel
theorem dX9_count_60 : decode cX9_count 60 = .ok (.ireturn, 1) := by decide +kernel
theorem dX9_count_61 : decode cX9_count 61 = .ok (.iload_n 1, 1) := by decide +kernel
theorem dX9_count_62 : decode cX9_count 62 = .ok (.iconst 5, 1) := by decide +kernel
theorem dX9_count_63 : decode cX9_count 63 = .ok (.if_icmp .le 9, 3) := by decide +kernel
theorem dX9_count_66 : decode cX9_count 66 = .ok (.iload_n 1, 1) := by decide +kernel
theorem dX9_count_67 : decode cX9_count 67 = .ok (.bipush 11, 2) := by decide +kernel
theorem dX9_count_69 : decode cX9_count 69 = .ok (.if_icmp .le 6, 3) := by decide +kernel
theorem dX9_count_72 : decode cX9_count 72 = .ok (.ldc 152, 2) := by decide +kernel
theorem dX9_count_74 : decode cX9_count 74 = .ok (.ireturn, 1) := by decide +kernel
theorem dX9_count_75 : decode cX9_count 75 = .ok (.aload_n 0, 1) := by decide +kernel
theorem dX9_count_76 : decode cX9_count 76 = .ok (.getfield 57, 3) := by decide +kernel
theorem dX9_count_79 : decode cX9_count 79 = .ok (.iload_n 1, 1) := by decide +kernel
theorem dX9_count_80 : decode cX9_count 80 = .ok (.iconst 5, 1) := by decide +kernel
theorem dX9_count_81 : decode cX9_count 81 = .ok (.isub, 1) := by decide +kernel
theorem dX9_count_82 : decode cX9_count 82 = .ok (.iaload, 1) := by decide +kernel
theorem dX9_count_83 : decode cX9_count 83 = .ok (.ireturn, 1) := by decide +kernel
theorem dX9_within_0 : decode cX9_within 0 = .ok (.iload_n 0, 1) := by decide +kernel
theorem dX9_within_1 : decode cX9_within 1 = .ok (.ifCond .lt 12, 3) := by decide +kernel
theorem dX9_within_4 : decode cX9_within 4 = .ok (.iload_n 0, 1) := by decide +kernel
theorem dX9_within_5 : decode cX9_within 5 = .ok (.iload_n 1, 1) := by decide +kernel
theorem dX9_within_6 : decode cX9_within 6 = .ok (.if_icmp .ge 7, 3) := by decide +kernel
theorem dX9_within_9 : decode cX9_within 9 = .ok (.iconst 1, 1) := by decide +kernel
theorem dX9_within_10 : decode cX9_within 10 = .ok (.goto 4, 3) := by decide +kernel
theorem dX9_within_13 : decode cX9_within 13 = .ok (.iconst 0, 1) := by decide +kernel
theorem dX9_within_14 : decode cX9_within 14 = .ok (.ireturn, 1) := by decide +kernel
theorem dX9_oneIf_0 : decode cX9_oneIf 0 = .ok (.iload_n 0, 1) := by decide +kernel
theorem dX9_oneIf_1 : decode cX9_oneIf 1 = .ok (.ifCond .eq 7, 3) := by decide +kernel
theorem dX9_oneIf_4 : decode cX9_oneIf 4 = .ok (.iconst 1, 1) := by decide +kernel
theorem dX9_oneIf_5 : decode cX9_oneIf 5 = .ok (.goto 4, 3) := by decide +kernel
theorem dX9_oneIf_8 : decode cX9_oneIf 8 = .ok (.iconst 0, 1) := by decide +kernel
theorem dX9_oneIf_9 : decode cX9_oneIf 9 = .ok (.ireturn, 1) := by decide +kernel
set_option maxRecDepth 20000 in
theorem ggX9_newHorse_X1_init : GoodIn wsX9_newHorse wsX1_init := goodIn_r _ [12, 13, 14, 9, 15, 16, 17, 18, 19, 20, 21, 22, 28, 29, 30, 31, 32, 38, 39, 40, 41, 42, 33, 34, 35, 36, 37] (by decide +kernel) (by decide +kernel)
set_option maxRecDepth 20000 in
theorem gX9_newHorse_X1_init : GoodIn wsX9_newHorse (wsX1_init) := ggX9_newHorse_X1_init
set_option maxRecDepth 20000 in
theorem ggX9_newHorse_X3_init : GoodIn wsX9_newHorse wsX3_init := goodIn_r _ [25, 26, 11, 3, 12, 13, 14, 9, 15, 16, 17, 18, 19, 20, 21, 22, 28, 29, 30, 31, 32, 38, 39, 40, 41, 42, 33, 34, 35, 36, 37] (by decide +kernel) (by decide +kernel)
set_option maxRecDepth 20000 in
theorem gX9_newHorse_X3_init : GoodIn wsX9_newHorse (wsX3_init) := ggX9_newHorse_X3_init
set_option maxRecDepth 20000 in
theorem ggX9_newHorse_X2_init : GoodIn wsX9_newHorse wsX2_init := goodIn_r _ [15, 16, 17, 18, 19, 20, 21, 22, 28, 29, 30, 31, 32, 38, 39, 40, 41, 42, 33, 34, 35, 36, 37] (by decide +kernel) (by decide +kernel)
set_option maxRecDepth 20000 in
theorem gX9_newHorse_X2_init : GoodIn wsX9_newHorse (wsX2_init) := ggX9_newHorse_X2_init
theorem dX9_newHorse_0 : decode cX9_newHorse 0 = .ok (.iload_n 0, 1) := by decide +kernel
theorem dX9_newHorse_1 : decode cX9_newHorse 1 = .ok (.lookupswitch 45 #[(1, 27), (2, 36)], 27) := by decide +kernel
theorem dX9_newHorse_28 : decode cX9_newHorse 28 = .ok (.new 153, 3) := by decide +kernel
theorem dX9_newHorse_31 : decode cX9_newHorse 31 = .ok (.dup, 1) := by decide +kernel
theorem dX9_newHorse_32 : decode cX9_newHorse 32 = .ok (.iload_n 1, 1) := by decide +kernel
theorem dX9_newHorse_33 : decode cX9_newHorse 33 = .ok (.invokespecial 155, 3) := by decide +kernel
theorem dX9_newHorse_36 : decode cX9_newHorse 36 = .ok (.areturn, 1) := by decide +kernel
theorem dX9_newHorse_37 : decode cX9_newHorse 37 = .ok (.new 156, 3) := by decide +kernel
theorem dX9_newHorse_40 : decode cX9_newHorse 40 = .ok (.dup, 1) := by decide +kernel
theorem dX9_newHorse_41 : decode cX9_newHorse 41 = .ok (.iload_n 1, 1) := by decide +kernel
theorem dX9_newHorse_42 : decode cX9_newHorse 42 = .ok (.invokespecial 158, 3) := by decide +kernel
theorem dX9_newHorse_45 : decode cX9_newHorse 45 = .ok (.areturn, 1) := by decide +kernel
theorem dX9_newHorse_46 : decode cX9_newHorse 46 = .ok (.new 9, 3) := by decide +kernel
theorem dX9_newHorse_49 : decode cX9_newHorse 49 = .ok (.dup, 1) := by decide +kernel
theorem dX9_newHorse_50 : decode cX9_newHorse 50 = .ok (.iload_n 1, 1) := by decide +kernel
theorem dX9_newHorse_51 : decode cX9_newHorse 51 = .ok (.invokespecial 159, 3) := by decide +kernel
theorem dX9_newHorse_54 : decode cX9_newHorse 54 = .ok (.areturn, 1) := by decide +kernel
theorem dX9_holdsSomething_0 : decode cX9_holdsSomething 0 = .ok (.iload_n 1, 1) := by decide +kernel
theorem dX9_holdsSomething_1 : decode cX9_holdsSomething 1 = .ok (.tableswitch 95 0 4 #[35, 50, 65, 75, 85], 35) := by decide +kernel
theorem dX9_holdsSomething_36 : decode cX9_holdsSomething 36 = .ok (.aload_n 0, 1) := by decide +kernel
theorem dX9_holdsSomething_37 : decode cX9_holdsSomething 37 = .ok (.getfield 11, 3) := by decide +kernel
theorem dX9_holdsSomething_40 : decode cX9_holdsSomething 40 = .ok (.iload_n 2, 1) := by decide +kernel
theorem dX9_holdsSomething_41 : decode cX9_holdsSomething 41 = .ok (.aaload, 1) := by decide +kernel
theorem dX9_holdsSomething_42 : decode cX9_holdsSomething 42 = .ok (.ifnull 7, 3) := by decide +kernel
theorem dX9_holdsSomething_45 : decode cX9_holdsSomething 45 = .ok (.iconst 1, 1) := by decide +kernel
theorem dX9_holdsSomething_46 : decode cX9_holdsSomething 46 = .ok (.goto 4, 3) := by decide +kernel
theorem dX9_holdsSomething_49 : decode cX9_holdsSomething 49 = .ok (.iconst 0, 1) := by decide +kernel
theorem dX9_holdsSomething_50 : decode cX9_holdsSomething 50 = .ok (.ireturn, 1) := by decide +kernel
theorem dX9_holdsSomething_51 : decode cX9_holdsSomething 51 = .ok (.aload_n 0, 1) := by decide +kernel
theorem dX9_holdsSomething_52 : decode cX9_holdsSomething 52 = .ok (.getfield 17, 3) := by decide +kernel
theorem dX9_holdsSomething_55 : decode cX9_holdsSomething 55 = .ok (.iload_n 2, 1) := by decide +kernel
theorem dX9_holdsSomething_56 : decode cX9_holdsSomething 56 = .ok (.aaload, 1) := by decide +kernel
theorem dX9_holdsSomething_57 : decode cX9_holdsSomething 57 = .ok (.ifnull 7, 3) := by decide +kernel
theorem dX9_holdsSomething_60 : decode cX9_holdsSomething 60 = .ok (.iconst 1, 1) := by decide +kernel
theorem dX9_holdsSomething_61 : decode cX9_holdsSomething 61 = .ok (.goto 4, 3) := by decide +kernel
theorem dX9_holdsSomething_64 : decode cX9_holdsSomething 64 = .ok (.iconst 0, 1) := by decide +kernel
theorem dX9_holdsSomething_65 : decode cX9_holdsSomething 65 = .ok (.ireturn, 1) := by decide +kernel
theorem dX9_holdsSomething_66 : decode cX9_holdsSomething 66 = .ok (.aload_n 0, 1) := by decide +kernel
theorem dX9_holdsSomething_67 : decode cX9_holdsSomething 67 = .ok (.getfield 23, 3) := by decide +kernel
theorem dX9_holdsSomething_70 : decode cX9_holdsSomething 70 = .ok (.iload_n 2, 1) := by decide +kernel
theorem dX9_holdsSomething_71 : decode cX9_holdsSomething 71 = .ok (.aaload, 1) := by decide +kernel
theorem dX9_holdsSomething_72 : decode cX9_holdsSomething 72 = .ok (.getfield 160, 3) := by decide +kernel
theorem dX9_holdsSomething_75 : decode cX9_holdsSomething 75 = .ok (.ireturn, 1) := by decide +kernel
theorem dX9_holdsSomething_76 : decode cX9_holdsSomething 76 = .ok (.aload_n 0, 1) := by decide +kernel
theorem dX9_holdsSomething_77 : decode cX9_holdsSomething 77 = .ok (.getfield 29, 3) := by decide +kernel
theorem dX9_holdsSomething_80 : decode cX9_holdsSomething 80 = .ok (.iload_n 2, 1) := by decide +kernel
theorem dX9_holdsSomething_81 : decode cX9_holdsSomething 81 = .ok (.aaload, 1) := by decide +kernel
theorem dX9_holdsSomething_82 : decode cX9_holdsSomething 82 = .ok (.getfield 161, 3) := by decide +kernel
theorem dX9_holdsSomething_85 : decode cX9_holdsSomething 85 = .ok (.ireturn, 1) := by decide +kernel
theorem dX9_holdsSomething_86 : decode cX9_holdsSomething 86 = .ok (.aload_n 0, 1) := by decide +kernel
theorem dX9_holdsSomething_87 : decode cX9_holdsSomething 87 = .ok (.getfield 35, 3) := by decide +kernel
theorem dX9_holdsSomething_90 : decode cX9_holdsSomething 90 = .ok (.iload_n 2, 1) := by decide +kernel
theorem dX9_holdsSomething_91 : decode cX9_holdsSomething 91 = .ok (.aaload, 1) := by decide +kernel
theorem dX9_holdsSomething_92 : decode cX9_holdsSomething 92 = .ok (.getfield 99, 3) := by decide +kernel
theorem dX9_holdsSomething_95 : decode cX9_holdsSomething 95 = .ok (.ireturn, 1) := by decide +kernel
theorem dX9_holdsSomething_96 : decode cX9_holdsSomething 96 = .ok (.aload_n 0, 1) := by decide +kernel
theorem dX9_holdsSomething_97 : decode cX9_holdsSomething 97 = .ok (.getfield 41, 3) := by decide +kernel
theorem dX9_holdsSomething_100 : decode cX9_holdsSomething 100 = .ok (.iload_n 2, 1) := by decide +kernel
theorem dX9_holdsSomething_101 : decode cX9_holdsSomething 101 = .ok (.aaload, 1) := by decide +kernel
theorem dX9_holdsSomething_102 : decode cX9_holdsSomething 102 = .ok (.ifnull 7, 3) := by decide +kernel
theorem dX9_holdsSomething_105 : decode cX9_holdsSomething 105 = .ok (.iconst 1, 1) := by decide +kernel
theorem dX9_holdsSomething_106 : decode cX9_holdsSomething 106 = .ok (.goto 4, 3) := by decide +kernel
theorem dX9_holdsSomething_109 : decode cX9_holdsSomething 109 = .ok (.iconst 0, 1) := by decide +kernel
theorem dX9_holdsSomething_110 : decode cX9_holdsSomething 110 = .ok (.ireturn, 1) := by decide +kernel
theorem dX9_takeAway_0 : decode cX9_takeAway 0 = .ok (.iload_n 1, 1) := by decide +kernel
theorem dX9_takeAway_1 : decode cX9_takeAway 1 = .ok (.tableswitch 94 0 4 #[35, 45, 55, 68, 81], 35) := by decide +kernel
theorem dX9_takeAway_36 : decode cX9_takeAway 36 = .ok (.aload_n 0, 1) := by decide +kernel
theorem dX9_takeAway_37 : decode cX9_takeAway 37 = .ok (.getfield 11, 3) := by decide +kernel
theorem dX9_takeAway_40 : decode cX9_takeAway 40 = .ok (.iload_n 2, 1) := by decide +kernel
theorem dX9_takeAway_41 : decode cX9_takeAway 41 = .ok (.aconst_null, 1) := by decide +kernel
theorem dX9_takeAway_42 : decode cX9_takeAway 42 = .ok (.aastore, 1) := by decide +kernel
theorem dX9_takeAway_43 : decode cX9_takeAway 43 = .ok (.goto 59, 3) := by decide +kernel
theorem dX9_takeAway_46 : decode cX9_takeAway 46 = .ok (.aload_n 0, 1) := by decide +kernel
theorem dX9_takeAway_47 : decode cX9_takeAway 47 = .ok (.getfield 17, 3) := by decide +kernel
theorem dX9_takeAway_50 : decode cX9_takeAway 50 = .ok (.iload_n 2, 1) := by decide +kernel
theorem dX9_takeAway_51 : decode cX9_takeAway 51 = .ok (.aconst_null, 1) := by decide +kernel
theorem dX9_takeAway_52 : decode cX9_takeAway 52 = .ok (.aastore, 1) := by decide +kernel
theorem dX9_takeAway_53 : decode cX9_takeAway 53 = .ok (.goto 49, 3) := by decide +kernel
theorem dX9_takeAway_56 : decode cX9_takeAway 56 = .ok (.aload_n 0, 1) := by decide +kernel
theorem dX9_takeAway_57 : decode cX9_takeAway 57 = .ok (.getfield 23, 3) := by decide +kernel
theorem dX9_takeAway_60 : decode cX9_takeAway 60 = .ok (.iload_n 2, 1) := by decide +kernel
theorem dX9_takeAway_61 : decode cX9_takeAway 61 = .ok (.aaload, 1) := by decide +kernel
theorem dX9_takeAway_62 : decode cX9_takeAway 62 = .ok (.iconst 0, 1) := by decide +kernel
theorem dX9_takeAway_63 : decode cX9_takeAway 63 = .ok (.putfield 160, 3) := by decide +kernel
theorem dX9_takeAway_66 : decode cX9_takeAway 66 = .ok (.goto 36, 3) := by decide +kernel
theorem dX9_takeAway_69 : decode cX9_takeAway 69 = .ok (.aload_n 0, 1) := by decide +kernel
theorem dX9_takeAway_70 : decode cX9_takeAway 70 = .ok (.getfield 29, 3) := by decide +kernel
theorem dX9_takeAway_73 : decode cX9_takeAway 73 = .ok (.iload_n 2, 1) := by decide +kernel
theorem dX9_takeAway_74 : decode cX9_takeAway 74 = .ok (.aaload, 1) := by decide +kernel
theorem dX9_takeAway_75 : decode cX9_takeAway 75 = .ok (.iconst 0, 1) := by decide +kernel
theorem dX9_takeAway_76 : decode cX9_takeAway 76 = .ok (.putfield 161, 3) := by decide +kernel
theorem dX9_takeAway_79 : decode cX9_takeAway 79 = .ok (.goto 23, 3) := by decide +kernel
theorem dX9_takeAway_82 : decode cX9_takeAway 82 = .ok (.aload_n 0, 1) := by decide +kernel
theorem dX9_takeAway_83 : decode cX9_takeAway 83 = .ok (.getfield 35, 3) := by decide +kernel
theorem dX9_takeAway_86 : decode cX9_takeAway 86 = .ok (.iload_n 2, 1) := by decide +kernel
theorem dX9_takeAway_87 : decode cX9_takeAway 87 = .ok (.aaload, 1) := by decide +kernel
theorem dX9_takeAway_88 : decode cX9_takeAway 88 = .ok (.iconst 0, 1) := by decide +kernel
theorem dX9_takeAway_89 : decode cX9_takeAway 89 = .ok (.putfield 99, 3) := by decide +kernel
theorem dX9_takeAway_92 : decode cX9_takeAway 92 = .ok (.goto 10, 3) := by decide +kernel
theorem dX9_takeAway_95 : decode cX9_takeAway 95 = .ok (.aload_n 0, 1) := by decide +kernel
theorem dX9_takeAway_96 : decode cX9_takeAway 96 = .ok (.getfield 41, 3) := by decide +kernel
theorem dX9_takeAway_99 : decode cX9_takeAway 99 = .ok (.iload_n 2, 1) := by decide +kernel
theorem dX9_takeAway_100 : decode cX9_takeAway 100 = .ok (.aconst_null, 1) := by decide +kernel
theorem dX9_takeAway_101 : decode cX9_takeAway 101 = .ok (.aastore, 1) := by decide +kernel
theorem dX9_takeAway_102 : decode cX9_takeAway 102 = .ok (.return_, 1) := by decide +kernel
theorem dX9_putDown_0 : decode cX9_putDown 0 = .ok (.aload_n 0, 1) := by decide +kernel
theorem dX9_putDown_1 : decode cX9_putDown 1 = .ok (.getfield 127, 3) := by decide +kernel
theorem dX9_putDown_4 : decode cX9_putDown 4 = .ok (.bipush 40, 2) := by decide +kernel
theorem dX9_putDown_6 : decode cX9_putDown 6 = .ok (.if_icmp .ge 33, 3) := by decide +kernel
theorem dX9_putDown_9 : decode cX9_putDown 9 = .ok (.aload_n 0, 1) := by decide +kernel
theorem dX9_putDown_10 : decode cX9_putDown 10 = .ok (.getfield 50, 3) := by decide +kernel
theorem dX9_putDown_13 : decode cX9_putDown 13 = .ok (.aload_n 0, 1) := by decide +kernel
theorem dX9_putDown_14 : decode cX9_putDown 14 = .ok (.getfield 127, 3) := by decide +kernel
theorem dX9_putDown_17 : decode cX9_putDown 17 = .ok (.iload_n 1, 1) := by decide +kernel
theorem dX9_putDown_18 : decode cX9_putDown 18 = .ok (.iastore, 1) := by decide +kernel
theorem dX9_putDown_19 : decode cX9_putDown 19 = .ok (.aload_n 0, 1) := by decide +kernel
theorem dX9_putDown_20 : decode cX9_putDown 20 = .ok (.getfield 54, 3) := by decide +kernel
theorem dX9_putDown_23 : decode cX9_putDown 23 = .ok (.aload_n 0, 1) := by decide +kernel
theorem dX9_putDown_24 : decode cX9_putDown 24 = .ok (.getfield 127, 3) := by decide +kernel
theorem dX9_putDown_27 : decode cX9_putDown 27 = .ok (.iload_n 2, 1) := by decide +kernel
theorem dX9_putDown_28 : decode cX9_putDown 28 = .ok (.iastore, 1) := by decide +kernel
theorem dX9_putDown_29 : decode cX9_putDown 29 = .ok (.aload_n 0, 1) := by decide +kernel
theorem dX9_putDown_30 : decode cX9_putDown 30 = .ok (.dup, 1) := by decide +kernel
theorem dX9_putDown_31 : decode cX9_putDown 31 = .ok (.getfield 127, 3) := by decide +kernel
theorem dX9_putDown_34 : decode cX9_putDown 34 = .ok (.iconst 1, 1) := by decide +kernel
theorem dX9_putDown_35 : decode cX9_putDown 35 = .ok (.iadd, 1) := by decide +kernel
theorem dX9_putDown_36 : decode cX9_putDown 36 = .ok (.putfield 127, 3) := by decide +kernel
theorem dX9_putDown_39 : decode cX9_putDown 39 = .ok (.aload_n 0, 1) := by decide +kernel
theorem dX9_putDown_40 : decode cX9_putDown 40 = .ok (.dup, 1) := by decide +kernel
theorem dX9_putDown_41 : decode cX9_putDown 41 = .ok (.getfield 149, 3) := by decide +kernel
theorem dX9_putDown_44 : decode cX9_putDown 44 = .ok (.iconst 1, 1) := by decide +kernel
theorem dX9_putDown_45 : decode cX9_putDown 45 = .ok (.iadd, 1) := by decide +kernel
theorem dX9_putDown_46 : decode cX9_putDown 46 = .ok (.putfield 149, 3) := by decide +kernel
theorem dX9_putDown_49 : decode cX9_putDown 49 = .ok (.return_, 1) := by decide +kernel
set_option maxRecDepth 20000 in
theorem ggX9_perform_X9_faultOf : GoodIn wsX9_perform wsX9_faultOf := goodIn_r _ [6, 7, 8, 9, 5, 10, 11, 12, 13, 14, 15, 16, 17, 18, 19, 20, 21, 22, 23, 24, 25, 26, 27, 28, 29, 30, 31, 32, 33, 34, 35, 36, 37, 38, 39, 40, 41, 42, 43, 44, 45, 46, 47, 48, 49, 50, 51, 52, 53, 54, 55, 56, 57, 58, 59, 60, 61, 62, 63, 64, 65, 66, 67, 68, 69, 70, 71, 72, 73, 74, 75, 76, 77, 78, 79, 80, 81, 82, 83, 84, 85, 86, 87, 88, 89, 90, 91, 92, 93, 94, 95, 96, 97, 98, 99, 100, 101, 102, 103, 104, 105, 106, 107, 108, 109, 110, 111, 112, 113, 114, 115, 116, 117, 118, 119, 120, 121, 122, 123, 124, 125, 126, 127, 128, 129, 130, 131, 132, 133, 134, 135, 136, 137, 138, 139, 140, 141, 142, 143, 144, 145, 146, 147, 148, 149, 150, 151, 152, 153, 154, 155, 156, 157, 158, 159, 160, 161, 162, 163, 164, 165, 166, 167, 168, 169, 170, 171, 172, 173, 174, 175, 176, 177, 178, 179, 180, 181, 182, 183, 184, 185, 186, 187, 188, 189, 190, 191, 192, 193, 194, 195, 196, 197, 198, 199, 200, 201, 202, 203, 204, 205, 206, 207, 208, 209, 210, 211, 212, 213, 214, 215, 216, 217, 218, 219, 220, 221, 222, 223, 224, 225, 226, 227, 228, 229, 230, 231, 232, 233, 234, 235, 236, 237, 238, 239, 240, 241, 242, 243, 244, 245, 246, 247, 248, 266, 267, 268, 269, 270, 271, 272, 273, 274, 275, 276, 277, 278, 279, 280, 249, 250, 251, 252, 253, 254, 255, 256, 257, 258, 259, 260, 261, 262, 263, 264, 265, 281, 282, 283, 284, 285, 286, 287, 288, 289, 290, 291, 292, 293, 294, 295] (by decide +kernel) (by decide +kernel)
set_option maxRecDepth 20000 in
theorem gX9_perform_X9_faultOf : GoodIn wsX9_perform (wsV RX9 162 RX9 yX9_faultOf wsX9_faultOf) := goodIn_app (goodIn_of _ (by decide +kernel)) ggX9_perform_X9_faultOf
theorem dX9_perform_0 : decode cX9_perform 0 = .ok (.aload_n 0, 1) := by decide +kernel
theorem dX9_perform_1 : decode cX9_perform 1 = .ok (.iload_n 1, 1) := by decide +kernel
theorem dX9_perform_2 : decode cX9_perform 2 = .ok (.iload_n 2, 1) := by decide +kernel
theorem dX9_perform_3 : decode cX9_perform 3 = .ok (.iload_n 3, 1) := by decide +kernel
theorem dX9_perform_4 : decode cX9_perform 4 = .ok (.iload 4, 2) := by decide +kernel
theorem dX9_perform_6 : decode cX9_perform 6 = .ok (.invokevirtual 162, 3) := by decide +kernel
theorem dX9_perform_9 : decode cX9_perform 9 = .ok (.istore 5, 2) := by decide +kernel
theorem dX9_perform_11 : decode cX9_perform 11 = .ok (.aload_n 0, 1) := by decide +kernel
theorem dX9_perform_12 : decode cX9_perform 12 = .ok (.getfield 57, 3) := by decide +kernel
theorem dX9_perform_15 : decode cX9_perform 15 = .ok (.iload 5, 2) := by decide +kernel
theorem dX9_perform_17 : decode cX9_perform 17 = .ok (.dup2, 1) := by decide +kernel
theorem dX9_perform_18 : decode cX9_perform 18 = .ok (.iaload, 1) := by decide +kernel
theorem dX9_perform_19 : decode cX9_perform 19 = .ok (.iconst 1, 1) := by decide +kernel
theorem dX9_perform_20 : decode cX9_perform 20 = .ok (.iadd, 1) := by decide +kernel
theorem dX9_perform_21 : decode cX9_perform 21 = .ok (.iastore, 1) := by decide +kernel
theorem dX9_perform_22 : decode cX9_perform 22 = .ok (.iload 5, 2) := by decide +kernel
theorem dX9_perform_24 : decode cX9_perform 24 = .ok (.ireturn, 1) := by decide +kernel
set_option maxRecDepth 20000 in
theorem ggX9_faultOf_X9_feedHorse : GoodIn wsX9_faultOf wsX9_feedHorse := goodIn_r _ [5, 6, 7, 8, 9, 4, 10, 11, 12, 13, 14, 15, 16, 17, 18, 19, 20, 244, 245, 246, 247, 248, 249, 250, 251, 252, 253, 254, 255, 256, 257, 258, 259, 260, 261, 262, 263, 264, 265, 266, 267, 268, 269, 270, 271, 272, 273, 274, 275] (by decide +kernel) (by decide +kernel)
set_option maxRecDepth 20000 in
theorem gX9_faultOf_X9_feedHorse : GoodIn wsX9_faultOf (wsV RX9 165 RX9 yX9_feedHorse wsX9_feedHorse) := goodIn_app (goodIn_of _ (by decide +kernel)) ggX9_faultOf_X9_feedHorse
set_option maxRecDepth 20000 in
theorem ggX9_faultOf_X9_askStrength : GoodIn wsX9_faultOf wsX9_askStrength := goodIn_r _ [24, 25, 7, 8, 9, 4, 10, 11, 12, 13, 14, 15, 16, 17, 18, 19, 20, 244, 245, 246, 247, 248, 249, 250, 251, 252, 253, 254, 255, 256, 257, 258, 259, 260, 261, 262, 263, 264, 265, 266, 267, 268, 269, 270, 271, 272, 273, 274, 275] (by decide +kernel) (by decide +kernel)
set_option maxRecDepth 20000 in
theorem gX9_faultOf_X9_askStrength : GoodIn wsX9_faultOf (wsV RX9 169 RX9 yX9_askStrength wsX9_askStrength) := goodIn_app (goodIn_of _ (by decide +kernel)) ggX9_faultOf_X9_askStrength
set_option maxRecDepth 20000 in
theorem ggX9_faultOf_X9_coverHorse : GoodIn wsX9_faultOf wsX9_coverHorse := goodIn_r _ [29, 30, 7, 8, 9, 4, 10, 11, 12, 13, 14, 15, 16, 17, 18, 19, 20, 244, 245, 246, 247, 248, 249, 250, 251, 252, 253, 254, 255, 256, 257, 258, 259, 260, 261, 262, 263, 264, 265, 266, 267, 268, 269, 270, 271, 272, 273, 274, 275] (by decide +kernel) (by decide +kernel)
set_option maxRecDepth 20000 in
theorem gX9_faultOf_X9_coverHorse : GoodIn wsX9_faultOf (wsV RX9 173 RX9 yX9_coverHorse wsX9_coverHorse) := goodIn_app (goodIn_of _ (by decide +kernel)) ggX9_faultOf_X9_coverHorse
set_option maxRecDepth 20000 in
theorem ggX9_faultOf_X9_groomHorse : GoodIn wsX9_faultOf wsX9_groomHorse := goodIn_r _ [34, 7, 8, 9, 4, 10, 11, 12, 13, 14, 15, 35, 36, 37, 38, 39, 40, 41, 42, 43, 44, 45, 46, 47, 48, 49, 50, 51, 52, 53, 54, 55, 56, 57, 58, 16, 17, 18, 19, 20, 259, 260, 261, 262, 263, 264, 265, 266, 267, 268, 269, 270, 271, 272, 273, 274, 275, 244, 245, 246, 247, 248, 249, 250, 251, 252, 253, 254, 255, 256, 257, 258] (by decide +kernel) (by decide +kernel)
set_option maxRecDepth 20000 in
theorem gX9_faultOf_X9_groomHorse : GoodIn wsX9_faultOf (wsV RX9 176 RX9 yX9_groomHorse wsX9_groomHorse) := goodIn_app (goodIn_of _ (by decide +kernel)) ggX9_faultOf_X9_groomHorse
set_option maxRecDepth 20000 in
theorem ggX9_faultOf_X9_workInShed : GoodIn wsX9_faultOf wsX9_workInShed := goodIn_r _ [62, 63, 64, 65, 4, 66, 67, 12, 13, 14, 15, 68, 69, 70, 71, 40, 72, 73, 74, 75, 76, 48, 77, 78, 79, 80, 52, 81, 82, 83, 84, 85, 58, 86, 87, 88, 89, 90, 91, 16, 17, 18, 19, 20, 259, 260, 261, 262, 263, 264, 265, 266, 267, 268, 269, 270, 271, 272, 273, 274, 275, 244, 245, 246, 247, 248, 249, 250, 251, 252, 253, 254, 255, 256, 257, 258, 276, 277] (by decide +kernel) (by decide +kernel)
set_option maxRecDepth 20000 in
theorem gX9_faultOf_X9_workInShed : GoodIn wsX9_faultOf (wsV RX9 179 RX9 yX9_workInShed wsX9_workInShed) := goodIn_app (goodIn_of _ (by decide +kernel)) ggX9_faultOf_X9_workInShed
set_option maxRecDepth 20000 in
theorem ggX9_faultOf_X9_askStrengthInShed : GoodIn wsX9_faultOf wsX9_askStrengthInShed := goodIn_r _ [95, 96, 25, 63, 64, 65, 4, 66, 67, 12, 13, 14, 15, 16, 17, 18, 19, 20, 244, 245, 246, 247, 248, 249, 250, 251, 252, 253, 254, 255, 256, 257, 258, 259, 260, 261, 262, 263, 264, 265, 266, 267, 268, 269, 270, 271, 272, 273, 274, 275] (by decide +kernel) (by decide +kernel)
set_option maxRecDepth 20000 in
theorem gX9_faultOf_X9_askStrengthInShed : GoodIn wsX9_faultOf (wsV RX9 182 RX9 yX9_askStrengthInShed wsX9_askStrengthInShed) := goodIn_app (goodIn_of _ (by decide +kernel)) ggX9_faultOf_X9_askStrengthInShed
set_option maxRecDepth 20000 in
theorem ggX9_faultOf_X9_askRugOfHunter : GoodIn wsX9_faultOf wsX9_askRugOfHunter := goodIn_r _ [100, 101, 30, 7, 8, 9, 4, 10, 11, 12, 13, 14, 15, 16, 17, 18, 19, 20, 244, 245, 246, 247, 248, 249, 250, 251, 252, 253, 254, 255, 256, 257, 258, 259, 260, 261, 262, 263, 264, 265, 266, 267, 268, 269, 270, 271, 272, 273, 274, 275] (by decide +kernel) (by decide +kernel)
set_option maxRecDepth 20000 in
theorem gX9_faultOf_X9_askRugOfHunter : GoodIn wsX9_faultOf (wsV RX9 185 RX9 yX9_askRugOfHunter wsX9_askRugOfHunter) := goodIn_app (goodIn_of _ (by decide +kernel)) ggX9_faultOf_X9_askRugOfHunter
set_option maxRecDepth 20000 in
theorem ggX9_faultOf_X9_formTeam : GoodIn wsX9_faultOf wsX9_formTeam := goodIn_r _ [105, 106, 107, 108, 109, 110, 111, 112, 4, 113, 114, 12, 13, 14, 15, 115, 116, 117, 118, 119, 120, 121, 122, 123, 16, 17, 18, 19, 20, 259, 260, 261, 262, 263, 264, 265, 266, 267, 268, 269, 270, 271, 272, 273, 274, 275, 278, 279, 280, 281] (by decide +kernel) (by decide +kernel)
set_option maxRecDepth 20000 in
theorem gX9_faultOf_X9_formTeam : GoodIn wsX9_faultOf (wsV RX9 188 RX9 yX9_formTeam wsX9_formTeam) := goodIn_app (goodIn_of _ (by decide +kernel)) ggX9_faultOf_X9_formTeam
set_option maxRecDepth 20000 in
theorem ggX9_faultOf_X9_putInTeam : GoodIn wsX9_faultOf wsX9_putInTeam := goodIn_r _ [127, 128, 129, 130, 110, 111, 112, 4, 113, 114, 12, 13, 14, 15, 131, 132, 133, 7, 8, 9, 10, 11, 134, 135, 136, 118, 137, 121, 138, 139, 140, 141, 142, 40, 143, 144, 145, 146, 147, 48, 148, 149, 52, 150, 16, 17, 18, 19, 20, 278, 279, 280, 281, 259, 260, 261, 262, 263, 264, 265, 266, 267, 268, 269, 270, 271, 272, 273, 274, 275] (by decide +kernel) (by decide +kernel)
set_option maxRecDepth 20000 in
theorem gX9_faultOf_X9_putInTeam : GoodIn wsX9_faultOf (wsV RX9 192 RX9 yX9_putInTeam wsX9_putInTeam) := goodIn_app (goodIn_of _ (by decide +kernel)) ggX9_faultOf_X9_putInTeam
set_option maxRecDepth 20000 in
theorem ggX9_faultOf_X9_takeFromTeam : GoodIn wsX9_faultOf wsX9_takeFromTeam := goodIn_r _ [154, 128, 129, 130, 11, 110, 111, 112, 4, 113, 114, 12, 13, 14, 15, 131, 132, 133, 155, 156, 157, 16, 17, 18, 19, 20, 278, 279, 280, 281, 259, 260, 261, 262, 263, 264, 265, 266, 267, 268, 269, 270, 271, 272, 273, 274, 275] (by decide +kernel) (by decide +kernel)
set_option maxRecDepth 20000 in
theorem gX9_faultOf_X9_takeFromTeam : GoodIn wsX9_faultOf (wsV RX9 195 RX9 yX9_takeFromTeam wsX9_takeFromTeam) := goodIn_app (goodIn_of _ (by decide +kernel)) ggX9_faultOf_X9_takeFromTeam
set_option maxRecDepth 20000 in
theorem ggX9_faultOf_X9_askPlaces : GoodIn wsX9_faultOf wsX9_askPlaces := goodIn_r _ [161, 128, 129, 110, 111, 112, 4, 113, 114, 12, 13, 14, 15, 16, 17, 18, 19, 20, 278, 279, 280, 281, 259, 260, 261, 262, 263, 264, 265, 266, 267, 268, 269, 270, 271, 272, 273, 274, 275] (by decide +kernel) (by decide +kernel)
set_option maxRecDepth 20000 in
theorem gX9_faultOf_X9_askPlaces : GoodIn wsX9_faultOf (wsV RX9 198 RX9 yX9_askPlaces wsX9_askPlaces) := goodIn_app (goodIn_of _ (by decide +kernel)) ggX9_faultOf_X9_askPlaces
set_option maxRecDepth 20000 in
theorem ggX9_faultOf_X9_workTeam : GoodIn wsX9_faultOf wsX9_workTeam := goodIn_r _ [165, 128, 129, 130, 110, 111, 112, 4, 113, 114, 12, 13, 14, 15, 166, 167, 168, 169, 71, 40, 72, 73, 74, 77, 170, 76, 171, 48, 78, 172, 80, 52, 81, 82, 83, 84, 85, 58, 16, 17, 18, 19, 20, 278, 279, 280, 281, 259, 260, 261, 262, 263, 264, 265, 266, 267, 268, 269, 270, 271, 272, 273, 274, 275, 244, 245, 246, 247, 248, 249, 250, 251, 252, 253, 254, 255, 256, 257, 258] (by decide +kernel) (by decide +kernel)
set_option maxRecDepth 20000 in
theorem gX9_faultOf_X9_workTeam : GoodIn wsX9_faultOf (wsV RX9 201 RX9 yX9_workTeam wsX9_workTeam) := goodIn_app (goodIn_of _ (by decide +kernel)) ggX9_faultOf_X9_workTeam
set_option maxRecDepth 20000 in
theorem ggX9_faultOf_X9_openLedger : GoodIn wsX9_faultOf wsX9_openLedger := goodIn_r _ [176, 106, 107, 108, 109, 177, 178, 179, 4, 180, 181, 12, 13, 14, 15, 182, 183, 184, 185, 186, 187, 188, 189, 190, 191, 192, 193, 16, 17, 18, 19, 20, 259, 260, 261, 262, 263, 264, 265, 266, 267, 268, 269, 270, 271, 272, 273, 274, 275, 282, 283, 284] (by decide +kernel) (by decide +kernel)
set_option maxRecDepth 20000 in
theorem gX9_faultOf_X9_openLedger : GoodIn wsX9_faultOf (wsV RX9 204 RX9 yX9_openLedger wsX9_openLedger) := goodIn_app (goodIn_of _ (by decide +kernel)) ggX9_faultOf_X9_openLedger
set_option maxRecDepth 20000 in
theorem ggX9_faultOf_X9_addInLedger : GoodIn wsX9_faultOf wsX9_addInLedger := goodIn_r _ [197, 198, 199, 200, 177, 178, 179, 4, 180, 181, 12, 13, 14, 15, 131, 132, 133, 16, 17, 18, 19, 20, 282, 283, 284, 259, 260, 261, 262, 263, 264, 265, 266, 267, 268, 269, 270, 271, 272, 273, 274, 275] (by decide +kernel) (by decide +kernel)
set_option maxRecDepth 20000 in
theorem gX9_faultOf_X9_addInLedger : GoodIn wsX9_faultOf (wsV RX9 207 RX9 yX9_addInLedger wsX9_addInLedger) := goodIn_app (goodIn_of _ (by decide +kernel)) ggX9_faultOf_X9_addInLedger
set_option maxRecDepth 20000 in
theorem ggX9_faultOf_X9_sumLedger : GoodIn wsX9_faultOf wsX9_sumLedger := goodIn_r _ [204, 198, 177, 178, 179, 4, 180, 181, 12, 13, 14, 15, 205, 206, 207, 185, 208, 188, 189, 16, 17, 18, 19, 20, 282, 283, 284, 259, 260, 261, 262, 263, 264, 265, 266, 267, 268, 269, 270, 271, 272, 273, 274, 275] (by decide +kernel) (by decide +kernel)
set_option maxRecDepth 20000 in
theorem gX9_faultOf_X9_sumLedger : GoodIn wsX9_faultOf (wsV RX9 210 RX9 yX9_sumLedger wsX9_sumLedger) := goodIn_app (goodIn_of _ (by decide +kernel)) ggX9_faultOf_X9_sumLedger
set_option maxRecDepth 20000 in
theorem ggX9_faultOf_X9_setTable : GoodIn wsX9_faultOf wsX9_setTable := goodIn_r _ [212, 106, 107, 108, 109, 213, 214, 215, 4, 216, 217, 12, 13, 14, 15, 218, 219, 220, 221, 222, 223, 224, 225, 226, 227, 228, 191, 192, 193, 16, 17, 18, 19, 20, 259, 260, 261, 262, 263, 264, 265, 266, 267, 268, 269, 270, 271, 272, 273, 274, 275, 285, 286, 287, 288, 289] (by decide +kernel) (by decide +kernel)
set_option maxRecDepth 20000 in
theorem gX9_faultOf_X9_setTable : GoodIn wsX9_faultOf (wsV RX9 213 RX9 yX9_setTable wsX9_setTable) := goodIn_app (goodIn_of _ (by decide +kernel)) ggX9_faultOf_X9_setTable
set_option maxRecDepth 20000 in
theorem ggX9_faultOf_X9_markTable : GoodIn wsX9_faultOf wsX9_markTable := goodIn_r _ [232, 233, 234, 235, 236, 237, 213, 214, 215, 4, 216, 217, 12, 13, 14, 15, 131, 132, 133, 16, 17, 18, 19, 20, 285, 286, 287, 288, 289, 259, 260, 261, 262, 263, 264, 265, 266, 267, 268, 269, 270, 271, 272, 273, 274, 275] (by decide +kernel) (by decide +kernel)
set_option maxRecDepth 20000 in
theorem gX9_faultOf_X9_markTable : GoodIn wsX9_faultOf (wsV RX9 216 RX9 yX9_markTable wsX9_markTable) := goodIn_app (goodIn_of _ (by decide +kernel)) ggX9_faultOf_X9_markTable
set_option maxRecDepth 20000 in
theorem ggX9_faultOf_X9_raiseAlarm : GoodIn wsX9_faultOf wsX9_raiseAlarm := goodIn_r _ [241, 242, 243, 20, 12, 13, 14, 15, 259, 260, 261, 262, 263, 264, 265, 266, 267, 268, 269, 270, 271, 272, 273, 274, 275, 290] (by decide +kernel) (by decide +kernel)
set_option maxRecDepth 20000 in
theorem gX9_faultOf_X9_raiseAlarm : GoodIn wsX9_faultOf (wsV RX9 219 RX9 yX9_raiseAlarm wsX9_raiseAlarm) := goodIn_app (goodIn_of _ (by decide +kernel)) ggX9_faultOf_X9_raiseAlarm
theorem dX9_faultOf_0 : decode cX9_faultOf 0 = .ok (.iload_n 1, 1) := by decide +kernel
theorem dX9_faultOf_1 : decode cX9_faultOf 1 = .ok (.tableswitch 208 0 16 #[83, 90, 96, 103, 109, 116, 122, 128, 137, 146, 155, 161, 168, 175, 184, 190, 199], 83) := by decide +kernel
theorem dX9_faultOf_84 : decode cX9_faultOf 84 = .ok (.aload_n 0, 1) := by decide +kernel
theorem dX9_faultOf_85 : decode cX9_faultOf 85 = .ok (.iload_n 2, 1) := by decide +kernel
theorem dX9_faultOf_86 : decode cX9_faultOf 86 = .ok (.iload_n 3, 1) := by decide +kernel
theorem dX9_faultOf_87 : decode cX9_faultOf 87 = .ok (.invokevirtual 165, 3) := by decide +kernel
theorem dX9_faultOf_90 : decode cX9_faultOf 90 = .ok (.ireturn, 1) := by decide +kernel
theorem dX9_faultOf_91 : decode cX9_faultOf 91 = .ok (.aload_n 0, 1) := by decide +kernel
theorem dX9_faultOf_92 : decode cX9_faultOf 92 = .ok (.iload_n 2, 1) := by decide +kernel
theorem dX9_faultOf_93 : decode cX9_faultOf 93 = .ok (.invokevirtual 169, 3) := by decide +kernel
theorem dX9_faultOf_96 : decode cX9_faultOf 96 = .ok (.ireturn, 1) := by decide +kernel
theorem dX9_faultOf_97 : decode cX9_faultOf 97 = .ok (.aload_n 0, 1) := by decide +kernel
theorem dX9_faultOf_98 : decode cX9_faultOf 98 = .ok (.iload_n 2, 1) := by decide +kernel
theorem dX9_faultOf_99 : decode cX9_faultOf 99 = .ok (.iload_n 3, 1) := by decide +kernel
theorem dX9_faultOf_100 : decode cX9_faultOf 100 = .ok (.invokevirtual 173, 3) := by decide +kernel
theorem dX9_faultOf_103 : decode cX9_faultOf 103 = .ok (.ireturn, 1) := by decide +kernel
theorem dX9_faultOf_104 : decode cX9_faultOf 104 = .ok (.aload_n 0, 1) := by decide +kernel
theorem dX9_faultOf_105 : decode cX9_faultOf 105 = .ok (.iload_n 2, 1) := by decide +kernel
theorem dX9_faultOf_106 : decode cX9_faultOf 106 = .ok (.invokevirtual 176, 3) := by decide +kernel
theorem dX9_faultOf_109 : decode cX9_faultOf 109 = .ok (.ireturn, 1) := by decide +kernel
theorem dX9_faultOf_110 : decode cX9_faultOf 110 = .ok (.aload_n 0, 1) := by decide +kernel
theorem dX9_faultOf_111 : decode cX9_faultOf 111 = .ok (.iload_n 2, 1) := by decide +kernel
theorem dX9_faultOf_112 : decode cX9_faultOf 112 = .ok (.iload_n 3, 1) := by decide +kernel
theorem dX9_faultOf_113 : decode cX9_faultOf 113 = .ok (.invokevirtual 179, 3) := by decide +kernel
theorem dX9_faultOf_116 : decode cX9_faultOf 116 = .ok (.ireturn, 1) := by decide +kernel
theorem dX9_faultOf_117 : decode cX9_faultOf 117 = .ok (.aload_n 0, 1) := by decide +kernel
theorem dX9_faultOf_118 : decode cX9_faultOf 118 = .ok (.iload_n 2, 1) := by decide +kernel
theorem dX9_faultOf_119 : decode cX9_faultOf 119 = .ok (.invokevirtual 182, 3) := by decide +kernel
theorem dX9_faultOf_122 : decode cX9_faultOf 122 = .ok (.ireturn, 1) := by decide +kernel
theorem dX9_faultOf_123 : decode cX9_faultOf 123 = .ok (.aload_n 0, 1) := by decide +kernel
theorem dX9_faultOf_124 : decode cX9_faultOf 124 = .ok (.iload_n 2, 1) := by decide +kernel
theorem dX9_faultOf_125 : decode cX9_faultOf 125 = .ok (.invokevirtual 185, 3) := by decide +kernel
theorem dX9_faultOf_128 : decode cX9_faultOf 128 = .ok (.ireturn, 1) := by decide +kernel
theorem dX9_faultOf_129 : decode cX9_faultOf 129 = .ok (.aload_n 0, 1) := by decide +kernel
theorem dX9_faultOf_130 : decode cX9_faultOf 130 = .ok (.iload_n 2, 1) := by decide +kernel
theorem dX9_faultOf_131 : decode cX9_faultOf 131 = .ok (.iload_n 3, 1) := by decide +kernel
theorem dX9_faultOf_132 : decode cX9_faultOf 132 = .ok (.iload 4, 2) := by decide +kernel
theorem dX9_faultOf_134 : decode cX9_faultOf 134 = .ok (.invokevirtual 188, 3) := by decide +kernel
theorem dX9_faultOf_137 : decode cX9_faultOf 137 = .ok (.ireturn, 1) := by decide +kernel
theorem dX9_faultOf_138 : decode cX9_faultOf 138 = .ok (.aload_n 0, 1) := by decide +kernel
theorem dX9_faultOf_139 : decode cX9_faultOf 139 = .ok (.iload_n 2, 1) := by decide +kernel
theorem dX9_faultOf_140 : decode cX9_faultOf 140 = .ok (.iload_n 3, 1) := by decide +kernel
theorem dX9_faultOf_141 : decode cX9_faultOf 141 = .ok (.iload 4, 2) := by decide +kernel
theorem dX9_faultOf_143 : decode cX9_faultOf 143 = .ok (.invokevirtual 192, 3) := by decide +kernel
theorem dX9_faultOf_146 : decode cX9_faultOf 146 = .ok (.ireturn, 1) := by decide +kernel
theorem dX9_faultOf_147 : decode cX9_faultOf 147 = .ok (.aload_n 0, 1) := by decide +kernel
theorem dX9_faultOf_148 : decode cX9_faultOf 148 = .ok (.iload_n 2, 1) := by decide +kernel
theorem dX9_faultOf_149 : decode cX9_faultOf 149 = .ok (.iload_n 3, 1) := by decide +kernel
theorem dX9_faultOf_150 : decode cX9_faultOf 150 = .ok (.iload 4, 2) := by decide +kernel
theorem dX9_faultOf_152 : decode cX9_faultOf 152 = .ok (.invokevirtual 195, 3) := by decide +kernel
theorem dX9_faultOf_155 : decode cX9_faultOf 155 = .ok (.ireturn, 1) := by decide +kernel
theorem dX9_faultOf_156 : decode cX9_faultOf 156 = .ok (.aload_n 0, 1) := by decide +kernel
theorem dX9_faultOf_157 : decode cX9_faultOf 157 = .ok (.iload_n 2, 1) := by decide +kernel
theorem dX9_faultOf_158 : decode cX9_faultOf 158 = .ok (.invokevirtual 198, 3) := by decide +kernel
theorem dX9_faultOf_161 : decode cX9_faultOf 161 = .ok (.ireturn, 1) := by decide +kernel
theorem dX9_faultOf_162 : decode cX9_faultOf 162 = .ok (.aload_n 0, 1) := by decide +kernel
theorem dX9_faultOf_163 : decode cX9_faultOf 163 = .ok (.iload_n 2, 1) := by decide +kernel
theorem dX9_faultOf_164 : decode cX9_faultOf 164 = .ok (.iload_n 3, 1) := by decide +kernel
theorem dX9_faultOf_165 : decode cX9_faultOf 165 = .ok (.invokevirtual 201, 3) := by decide +kernel
theorem dX9_faultOf_168 : decode cX9_faultOf 168 = .ok (.ireturn, 1) := by decide +kernel
theorem dX9_faultOf_169 : decode cX9_faultOf 169 = .ok (.aload_n 0, 1) := by decide +kernel
theorem dX9_faultOf_170 : decode cX9_faultOf 170 = .ok (.iload_n 2, 1) := by decide +kernel
theorem dX9_faultOf_171 : decode cX9_faultOf 171 = .ok (.iload_n 3, 1) := by decide +kernel
theorem dX9_faultOf_172 : decode cX9_faultOf 172 = .ok (.invokevirtual 204, 3) := by decide +kernel
theorem dX9_faultOf_175 : decode cX9_faultOf 175 = .ok (.ireturn, 1) := by decide +kernel
theorem dX9_faultOf_176 : decode cX9_faultOf 176 = .ok (.aload_n 0, 1) := by decide +kernel
theorem dX9_faultOf_177 : decode cX9_faultOf 177 = .ok (.iload_n 2, 1) := by decide +kernel
theorem dX9_faultOf_178 : decode cX9_faultOf 178 = .ok (.iload_n 3, 1) := by decide +kernel
theorem dX9_faultOf_179 : decode cX9_faultOf 179 = .ok (.iload 4, 2) := by decide +kernel
theorem dX9_faultOf_181 : decode cX9_faultOf 181 = .ok (.invokevirtual 207, 3) := by decide +kernel
theorem dX9_faultOf_184 : decode cX9_faultOf 184 = .ok (.ireturn, 1) := by decide +kernel
theorem dX9_faultOf_185 : decode cX9_faultOf 185 = .ok (.aload_n 0, 1) := by decide +kernel
theorem dX9_faultOf_186 : decode cX9_faultOf 186 = .ok (.iload_n 2, 1) := by decide +kernel
theorem dX9_faultOf_187 : decode cX9_faultOf 187 = .ok (.invokevirtual 210, 3) := by decide +kernel
theorem dX9_faultOf_190 : decode cX9_faultOf 190 = .ok (.ireturn, 1) := by decide +kernel
theorem dX9_faultOf_191 : decode cX9_faultOf 191 = .ok (.aload_n 0, 1) := by decide +kernel
theorem dX9_faultOf_192 : decode cX9_faultOf 192 = .ok (.iload_n 2, 1) := by decide +kernel
theorem dX9_faultOf_193 : decode cX9_faultOf 193 = .ok (.iload_n 3, 1) := by decide +kernel
theorem dX9_faultOf_194 : decode cX9_faultOf 194 = .ok (.iload 4, 2) := by decide +kernel
theorem dX9_faultOf_196 : decode cX9_faultOf 196 = .ok (.invokevirtual 213, 3) := by decide +kernel
theorem dX9_faultOf_199 : decode cX9_faultOf 199 = .ok (.ireturn, 1) := by decide +kernel
theorem dX9_faultOf_200 : decode cX9_faultOf 200 = .ok (.aload_n 0, 1) := by decide +kernel
theorem dX9_faultOf_201 : decode cX9_faultOf 201 = .ok (.iload_n 2, 1) := by decide +kernel
theorem dX9_faultOf_202 : decode cX9_faultOf 202 = .ok (.iload_n 3, 1) := by decide +kernel
theorem dX9_faultOf_203 : decode cX9_faultOf 203 = .ok (.iload 4, 2) := by decide +kernel
theorem dX9_faultOf_205 : decode cX9_faultOf 205 = .ok (.invokevirtual 216, 3) := by decide +kernel
theorem dX9_faultOf_208 : decode cX9_faultOf 208 = .ok (.ireturn, 1) := by decide +kernel
theorem dX9_faultOf_209 : decode cX9_faultOf 209 = .ok (.aload_n 0, 1) := by decide +kernel
theorem dX9_faultOf_210 : decode cX9_faultOf 210 = .ok (.iload_n 2, 1) := by decide +kernel
theorem dX9_faultOf_211 : decode cX9_faultOf 211 = .ok (.invokevirtual 219, 3) := by decide +kernel
theorem dX9_faultOf_214 : decode cX9_faultOf 214 = .ok (.ireturn, 1) := by decide +kernel
theorem dX9_comeTo_0 : decode cX9_comeTo 0 = .ok (.aload_n 0, 1) := by decide +kernel
theorem dX9_comeTo_1 : decode cX9_comeTo 1 = .ok (.iload_n 1, 1) := by decide +kernel
theorem dX9_comeTo_2 : decode cX9_comeTo 2 = .ok (.putfield 118, 3) := by decide +kernel
theorem dX9_comeTo_5 : decode cX9_comeTo 5 = .ok (.iconst 0, 1) := by decide +kernel
theorem dX9_comeTo_6 : decode cX9_comeTo 6 = .ok (.ireturn, 1) := by decide +kernel
set_option maxRecDepth 20000 in
theorem ggX9_horseAt_J9_floorMod_7cf53 : GoodIn wsX9_horseAt wsJ9_floorMod_7cf53 := goodIn_r _ [5] (by decide +kernel) (by decide +kernel)
set_option maxRecDepth 20000 in
theorem gX9_horseAt_J9_floorMod_7cf53 : GoodIn wsX9_horseAt (va_wsS RX9 222 yJ9_floorMod_7cf53 wsJ9_floorMod_7cf53) := goodIn_app (goodIn_of _ (by decide +kernel)) ggX9_horseAt_J9_floorMod_7cf53
theorem dX9_horseAt_0 : decode cX9_horseAt 0 = .ok (.aload_n 0, 1) := by decide +kernel
theorem dX9_horseAt_1 : decode cX9_horseAt 1 = .ok (.getfield 11, 3) := by decide +kernel
theorem dX9_horseAt_4 : decode cX9_horseAt 4 = .ok (.iload_n 1, 1) := by decide +kernel
theorem dX9_horseAt_5 : decode cX9_horseAt 5 = .ok (.bipush 10, 2) := by decide +kernel
theorem dX9_horseAt_7 : decode cX9_horseAt 7 = .ok (.invokestatic 222, 3) := by decide +kernel
theorem dX9_horseAt_10 : decode cX9_horseAt 10 = .ok (.aaload, 1) := by decide +kernel
theorem dX9_horseAt_11 : decode cX9_horseAt 11 = .ok (.areturn, 1) := by decide +kernel
set_option maxRecDepth 20000 in
theorem ggX9_workerAt_J9_floorMod_7cf53 : GoodIn wsX9_workerAt wsJ9_floorMod_7cf53 := goodIn_r _ [5] (by decide +kernel) (by decide +kernel)
set_option maxRecDepth 20000 in
theorem gX9_workerAt_J9_floorMod_7cf53 : GoodIn wsX9_workerAt (va_wsS RX9 222 yJ9_floorMod_7cf53 wsJ9_floorMod_7cf53) := goodIn_app (goodIn_of _ (by decide +kernel)) ggX9_workerAt_J9_floorMod_7cf53
theorem dX9_workerAt_0 : decode cX9_workerAt 0 = .ok (.aload_n 0, 1) := by decide +kernel
theorem dX9_workerAt_1 : decode cX9_workerAt 1 = .ok (.getfield 17, 3) := by decide +kernel
theorem dX9_workerAt_4 : decode cX9_workerAt 4 = .ok (.iload_n 1, 1) := by decide +kernel
theorem dX9_workerAt_5 : decode cX9_workerAt 5 = .ok (.bipush 6, 2) := by decide +kernel
theorem dX9_workerAt_7 : decode cX9_workerAt 7 = .ok (.invokestatic 222, 3) := by decide +kernel
theorem dX9_workerAt_10 : decode cX9_workerAt 10 = .ok (.aaload, 1) := by decide +kernel
theorem dX9_workerAt_11 : decode cX9_workerAt 11 = .ok (.areturn, 1) := by decide +kernel
set_option maxRecDepth 20000 in
theorem ggX9_teamAt_J9_floorMod_7cf53 : GoodIn wsX9_teamAt wsJ9_floorMod_7cf53 := goodIn_r _ [5] (by decide +kernel) (by decide +kernel)
set_option maxRecDepth 20000 in
theorem gX9_teamAt_J9_floorMod_7cf53 : GoodIn wsX9_teamAt (va_wsS RX9 222 yJ9_floorMod_7cf53 wsJ9_floorMod_7cf53) := goodIn_app (goodIn_of _ (by decide +kernel)) ggX9_teamAt_J9_floorMod_7cf53
theorem dX9_teamAt_0 : decode cX9_teamAt 0 = .ok (.aload_n 0, 1) := by decide +kernel
theorem dX9_teamAt_1 : decode cX9_teamAt 1 = .ok (.getfield 23, 3) := by decide +kernel
theorem dX9_teamAt_4 : decode cX9_teamAt 4 = .ok (.iload_n 1, 1) := by decide +kernel
theorem dX9_teamAt_5 : decode cX9_teamAt 5 = .ok (.bipush 6, 2) := by decide +kernel
theorem dX9_teamAt_7 : decode cX9_teamAt 7 = .ok (.invokestatic 222, 3) := by decide +kernel
theorem dX9_teamAt_10 : decode cX9_teamAt 10 = .ok (.aaload, 1) := by decide +kernel
theorem dX9_teamAt_11 : decode cX9_teamAt 11 = .ok (.areturn, 1) := by decide +kernel
set_option maxRecDepth 20000 in
theorem ggX9_ledgerAt_J9_floorMod_7cf53 : GoodIn wsX9_ledgerAt wsJ9_floorMod_7cf53 := goodIn_r _ [5] (by decide +kernel) (by decide +kernel)
set_option maxRecDepth 20000 in
theorem gX9_ledgerAt_J9_floorMod_7cf53 : GoodIn wsX9_ledgerAt (va_wsS RX9 222 yJ9_floorMod_7cf53 wsJ9_floorMod_7cf53) := goodIn_app (goodIn_of _ (by decide +kernel)) ggX9_ledgerAt_J9_floorMod_7cf53
theorem dX9_ledgerAt_0 : decode cX9_ledgerAt 0 = .ok (.aload_n 0, 1) := by decide +kernel
theorem dX9_ledgerAt_1 : decode cX9_ledgerAt 1 = .ok (.getfield 29, 3) := by decide +kernel
theorem dX9_ledgerAt_4 : decode cX9_ledgerAt 4 = .ok (.iload_n 1, 1) := by decide +kernel
theorem dX9_ledgerAt_5 : decode cX9_ledgerAt 5 = .ok (.iconst 4, 1) := by decide +kernel
theorem dX9_ledgerAt_6 : decode cX9_ledgerAt 6 = .ok (.invokestatic 222, 3) := by decide +kernel
theorem dX9_ledgerAt_9 : decode cX9_ledgerAt 9 = .ok (.aaload, 1) := by decide +kernel
theorem dX9_ledgerAt_10 : decode cX9_ledgerAt 10 = .ok (.areturn, 1) := by decide +kernel
set_option maxRecDepth 20000 in
theorem ggX9_tableAt_J9_floorMod_7cf53 : GoodIn wsX9_tableAt wsJ9_floorMod_7cf53 := goodIn_r _ [5] (by decide +kernel) (by decide +kernel)
set_option maxRecDepth 20000 in
theorem gX9_tableAt_J9_floorMod_7cf53 : GoodIn wsX9_tableAt (va_wsS RX9 222 yJ9_floorMod_7cf53 wsJ9_floorMod_7cf53) := goodIn_app (goodIn_of _ (by decide +kernel)) ggX9_tableAt_J9_floorMod_7cf53
theorem dX9_tableAt_0 : decode cX9_tableAt 0 = .ok (.aload_n 0, 1) := by decide +kernel
theorem dX9_tableAt_1 : decode cX9_tableAt 1 = .ok (.getfield 35, 3) := by decide +kernel
theorem dX9_tableAt_4 : decode cX9_tableAt 4 = .ok (.iload_n 1, 1) := by decide +kernel
theorem dX9_tableAt_5 : decode cX9_tableAt 5 = .ok (.iconst 4, 1) := by decide +kernel
theorem dX9_tableAt_6 : decode cX9_tableAt 6 = .ok (.invokestatic 222, 3) := by decide +kernel
theorem dX9_tableAt_9 : decode cX9_tableAt 9 = .ok (.aaload, 1) := by decide +kernel
theorem dX9_tableAt_10 : decode cX9_tableAt 10 = .ok (.areturn, 1) := by decide +kernel
set_option maxRecDepth 20000 in
theorem ggX9_feedHorse_X9_horseAt : GoodIn wsX9_feedHorse wsX9_horseAt := goodIn_r _ [6, 7, 8, 9, 10, 11, 32, 33, 34, 35, 36, 37, 38, 39, 40, 41, 42, 43, 44, 45, 46, 47, 48] (by decide +kernel) (by decide +kernel)
set_option maxRecDepth 20000 in
theorem gX9_feedHorse_X9_horseAt : GoodIn wsX9_feedHorse (wsV RX9 227 RX9 yX9_horseAt wsX9_horseAt) := goodIn_app (goodIn_of _ (by decide +kernel)) ggX9_feedHorse_X9_horseAt
set_option maxRecDepth 20000 in
theorem ggX9_feedHorse_X9_comeTo : GoodIn wsX9_feedHorse wsX9_comeTo := goodIn_r _ [15, 16, 32, 33, 34, 35, 36, 37, 38, 39, 40, 41, 42, 43, 44, 45, 46, 47, 48] (by decide +kernel) (by decide +kernel)
set_option maxRecDepth 20000 in
theorem gX9_feedHorse_X9_comeTo : GoodIn wsX9_feedHorse (wsV RX9 231 RX9 yX9_comeTo wsX9_comeTo) := goodIn_app (goodIn_of _ (by decide +kernel)) ggX9_feedHorse_X9_comeTo
theorem dX9_feedHorse_0 : decode cX9_feedHorse 0 = .ok (.aload_n 0, 1) := by decide +kernel
theorem dX9_feedHorse_1 : decode cX9_feedHorse 1 = .ok (.iload_n 1, 1) := by decide +kernel
theorem dX9_feedHorse_2 : decode cX9_feedHorse 2 = .ok (.invokevirtual 227, 3) := by decide +kernel
theorem dX9_feedHorse_5 : decode cX9_feedHorse 5 = .ok (.astore_n 3, 1) := by decide +kernel
theorem dX9_feedHorse_6 : decode cX9_feedHorse 6 = .ok (.aload_n 3, 1) := by decide +kernel
theorem dX9_feedHorse_7 : decode cX9_feedHorse 7 = .ok (.ifnonnull 5, 3) := by decide +kernel
theorem dX9_feedHorse_10 : decode cX9_feedHorse 10 = .ok (.iconst 1, 1) := by decide +kernel
theorem dX9_feedHorse_11 : decode cX9_feedHorse 11 = .ok (.ireturn, 1) := by decide +kernel
theorem dX9_feedHorse_12 : decode cX9_feedHorse 12 = .ok (.aload_n 3, 1) := by decide +kernel
theorem dX9_feedHorse_13 : decode cX9_feedHorse 13 = .ok (.dup, 1) := by decide +kernel
theorem dX9_feedHorse_14 : decode cX9_feedHorse 14 = .ok (.getfield 137, 3) := by decide +kernel
theorem dX9_feedHorse_17 : decode cX9_feedHorse 17 = .ok (.iload_n 2, 1) := by decide +kernel
theorem dX9_feedHorse_18 : decode cX9_feedHorse 18 = .ok (.iadd, 1) := by decide +kernel
theorem dX9_feedHorse_19 : decode cX9_feedHorse 19 = .ok (.putfield 137, 3) := by decide +kernel
theorem dX9_feedHorse_22 : decode cX9_feedHorse 22 = .ok (.aload_n 0, 1) := by decide +kernel
theorem dX9_feedHorse_23 : decode cX9_feedHorse 23 = .ok (.aload_n 3, 1) := by decide +kernel
theorem dX9_feedHorse_24 : decode cX9_feedHorse 24 = .ok (.getfield 137, 3) := by decide +kernel
theorem dX9_feedHorse_27 : decode cX9_feedHorse 27 = .ok (.invokevirtual 231, 3) := by decide +kernel
theorem dX9_feedHorse_30 : decode cX9_feedHorse 30 = .ok (.ireturn, 1) := by decide +kernel
set_option maxRecDepth 20000 in
theorem ggX9_askStrength_X9_horseAt : GoodIn wsX9_askStrength wsX9_horseAt := goodIn_r _ [6, 7, 8, 9, 10, 11, 32, 33, 34, 35, 36, 37, 38, 39, 40, 41, 42, 43, 44, 45, 46, 47, 48] (by decide +kernel) (by decide +kernel)
set_option maxRecDepth 20000 in
theorem gX9_askStrength_X9_horseAt : GoodIn wsX9_askStrength (wsV RX9 227 RX9 yX9_horseAt wsX9_horseAt) := goodIn_app (goodIn_of _ (by decide +kernel)) ggX9_askStrength_X9_horseAt
set_option maxRecDepth 20000 in
theorem ggX9_askStrength_X9_comeTo : GoodIn wsX9_askStrength wsX9_comeTo := goodIn_r _ [15, 16, 32, 33, 34, 35, 36, 37, 38, 39, 40, 41, 42, 43, 44, 45, 46, 47, 48] (by decide +kernel) (by decide +kernel)
set_option maxRecDepth 20000 in
theorem gX9_askStrength_X9_comeTo : GoodIn wsX9_askStrength (wsV RX9 231 RX9 yX9_comeTo wsX9_comeTo) := goodIn_app (goodIn_of _ (by decide +kernel)) ggX9_askStrength_X9_comeTo
theorem dX9_askStrength_0 : decode cX9_askStrength 0 = .ok (.aload_n 0, 1) := by decide +kernel
theorem dX9_askStrength_1 : decode cX9_askStrength 1 = .ok (.iload_n 1, 1) := by decide +kernel
theorem dX9_askStrength_2 : decode cX9_askStrength 2 = .ok (.invokevirtual 227, 3) := by decide +kernel
theorem dX9_askStrength_5 : decode cX9_askStrength 5 = .ok (.astore_n 2, 1) := by decide +kernel
theorem dX9_askStrength_6 : decode cX9_askStrength 6 = .ok (.aload_n 2, 1) := by decide +kernel
theorem dX9_askStrength_7 : decode cX9_askStrength 7 = .ok (.ifnonnull 7, 3) := by decide +kernel
theorem dX9_askStrength_10 : decode cX9_askStrength 10 = .ok (.iconst 1, 1) := by decide +kernel
theorem dX9_askStrength_11 : decode cX9_askStrength 11 = .ok (.goto 11, 3) := by decide +kernel
theorem dX9_askStrength_14 : decode cX9_askStrength 14 = .ok (.aload_n 0, 1) := by decide +kernel
theorem dX9_askStrength_15 : decode cX9_askStrength 15 = .ok (.aload_n 2, 1) := by decide +kernel
theorem dX9_askStrength_16 : decode cX9_askStrength 16 = .ok (.getfield 134, 3) := by decide +kernel
theorem dX9_askStrength_19 : decode cX9_askStrength 19 = .ok (.invokevirtual 231, 3) := by decide +kernel
theorem dX9_askStrength_22 : decode cX9_askStrength 22 = .ok (.ireturn, 1) := by decide +kernel
set_option maxRecDepth 20000 in
theorem ggX9_coverHorse_X9_horseAt : GoodIn wsX9_coverHorse wsX9_horseAt := goodIn_r _ [6, 7, 8, 9, 10, 11, 32, 33, 34, 35, 36, 37, 38, 39, 40, 41, 42, 43, 44, 45, 46, 47, 48] (by decide +kernel) (by decide +kernel)
set_option maxRecDepth 20000 in
theorem gX9_coverHorse_X9_horseAt : GoodIn wsX9_coverHorse (wsV RX9 227 RX9 yX9_horseAt wsX9_horseAt) := goodIn_app (goodIn_of _ (by decide +kernel)) ggX9_coverHorse_X9_horseAt
set_option maxRecDepth 20000 in
theorem ggX9_coverHorse_X9_comeTo : GoodIn wsX9_coverHorse wsX9_comeTo := goodIn_r _ [15, 16, 32, 33, 34, 35, 36, 37, 38, 39, 40, 41, 42, 43, 44, 45, 46, 47, 48] (by decide +kernel) (by decide +kernel)
set_option maxRecDepth 20000 in
theorem gX9_coverHorse_X9_comeTo : GoodIn wsX9_coverHorse (wsV RX9 231 RX9 yX9_comeTo wsX9_comeTo) := goodIn_app (goodIn_of _ (by decide +kernel)) ggX9_coverHorse_X9_comeTo
theorem dX9_coverHorse_0 : decode cX9_coverHorse 0 = .ok (.aload_n 0, 1) := by decide +kernel
theorem dX9_coverHorse_1 : decode cX9_coverHorse 1 = .ok (.iload_n 1, 1) := by decide +kernel
theorem dX9_coverHorse_2 : decode cX9_coverHorse 2 = .ok (.invokevirtual 227, 3) := by decide +kernel
theorem dX9_coverHorse_5 : decode cX9_coverHorse 5 = .ok (.astore_n 3, 1) := by decide +kernel
theorem dX9_coverHorse_6 : decode cX9_coverHorse 6 = .ok (.aload_n 3, 1) := by decide +kernel
theorem dX9_coverHorse_7 : decode cX9_coverHorse 7 = .ok (.ifnonnull 5, 3) := by decide +kernel
theorem dX9_coverHorse_10 : decode cX9_coverHorse 10 = .ok (.iconst 1, 1) := by decide +kernel
theorem dX9_coverHorse_11 : decode cX9_coverHorse 11 = .ok (.ireturn, 1) := by decide +kernel
theorem dX9_coverHorse_12 : decode cX9_coverHorse 12 = .ok (.aload_n 3, 1) := by decide +kernel
theorem dX9_coverHorse_13 : decode cX9_coverHorse 13 = .ok (.iload_n 2, 1) := by decide +kernel
theorem dX9_coverHorse_14 : decode cX9_coverHorse 14 = .ok (.putfield 140, 3) := by decide +kernel
theorem dX9_coverHorse_17 : decode cX9_coverHorse 17 = .ok (.aload_n 0, 1) := by decide +kernel
theorem dX9_coverHorse_18 : decode cX9_coverHorse 18 = .ok (.iconst 0, 1) := by decide +kernel
theorem dX9_coverHorse_19 : decode cX9_coverHorse 19 = .ok (.invokevirtual 231, 3) := by decide +kernel
theorem dX9_coverHorse_22 : decode cX9_coverHorse 22 = .ok (.ireturn, 1) := by decide +kernel
set_option maxRecDepth 20000 in
theorem ggX9_groomHorse_X9_horseAt : GoodIn wsX9_groomHorse wsX9_horseAt := goodIn_r _ [5, 6, 7, 8, 9, 10, 40, 41, 42, 43, 44, 45, 46, 47, 48, 49, 50, 51, 52, 53, 54, 55, 56] (by decide +kernel) (by decide +kernel)
set_option maxRecDepth 20000 in
theorem gX9_groomHorse_X9_horseAt : GoodIn wsX9_groomHorse (wsV RX9 227 RX9 yX9_horseAt wsX9_horseAt) := goodIn_app (goodIn_of _ (by decide +kernel)) ggX9_groomHorse_X9_horseAt
set_option maxRecDepth 20000 in
theorem ggX9_groomHorse_X1_groom : GoodIn wsX9_groomHorse wsX1_groom := goodIn_r _ [17, 18, 19, 57, 58, 59, 60, 61, 62, 63, 64, 65, 66, 67, 68, 69, 70, 71] (by decide +kernel) (by decide +kernel)
set_option maxRecDepth 20000 in
theorem gX9_groomHorse_X1_groom_u234X1 : GoodIn wsX9_groomHorse (va_wsO RX9 234 RX1 "RidingYard$Horse" ⟨"RidingYard$Horse", "groom", "()I"⟩ yX1_groom wsX1_groom) := goodIn_app (goodIn_of _ (by decide +kernel)) ggX9_groomHorse_X1_groom
set_option maxRecDepth 20000 in
theorem ggX9_groomHorse_X2_groom : GoodIn wsX9_groomHorse wsX2_groom := goodIn_r _ [20, 25, 57, 58, 59, 60, 61, 62, 63, 64, 65, 66, 67, 68, 69, 70, 71] (by decide +kernel) (by decide +kernel)
set_option maxRecDepth 20000 in
theorem gX9_groomHorse_X2_groom : GoodIn wsX9_groomHorse (wsV RX9 234 RX2 yX2_groom wsX2_groom) := goodIn_app (goodIn_of _ (by decide +kernel)) ggX9_groomHorse_X2_groom
set_option maxRecDepth 20000 in
theorem ggX9_groomHorse_X3_groom : GoodIn wsX9_groomHorse wsX3_groom := goodIn_r _ [29, 30, 31, 32, 33, 34, 15, 16, 17, 18, 19, 57, 58, 59, 60, 61, 62, 63, 64, 65, 66, 67, 68, 69, 70, 71] (by decide +kernel) (by decide +kernel)
set_option maxRecDepth 20000 in
theorem gX9_groomHorse_X3_groom_u234X3 : GoodIn wsX9_groomHorse (va_wsO RX9 234 RX3 "RidingYard$Horse" ⟨"RidingYard$Horse", "groom", "()I"⟩ yX3_groom wsX3_groom) := goodIn_app (goodIn_of _ (by decide +kernel)) ggX9_groomHorse_X3_groom
set_option maxRecDepth 20000 in
theorem ggX9_groomHorse_X9_comeTo : GoodIn wsX9_groomHorse wsX9_comeTo := goodIn_r _ [38, 39, 40, 41, 42, 43, 44, 45, 46, 47, 48, 49, 50, 51, 52, 53, 54, 55, 56] (by decide +kernel) (by decide +kernel)
set_option maxRecDepth 20000 in
theorem gX9_groomHorse_X9_comeTo : GoodIn wsX9_groomHorse (wsV RX9 231 RX9 yX9_comeTo wsX9_comeTo) := goodIn_app (goodIn_of _ (by decide +kernel)) ggX9_groomHorse_X9_comeTo
theorem dX9_groomHorse_0 : decode cX9_groomHorse 0 = .ok (.aload_n 0, 1) := by decide +kernel
theorem dX9_groomHorse_1 : decode cX9_groomHorse 1 = .ok (.iload_n 1, 1) := by decide +kernel
theorem dX9_groomHorse_2 : decode cX9_groomHorse 2 = .ok (.invokevirtual 227, 3) := by decide +kernel
theorem dX9_groomHorse_5 : decode cX9_groomHorse 5 = .ok (.astore_n 2, 1) := by decide +kernel
theorem dX9_groomHorse_6 : decode cX9_groomHorse 6 = .ok (.aload_n 2, 1) := by decide +kernel
theorem dX9_groomHorse_7 : decode cX9_groomHorse 7 = .ok (.ifnonnull 7, 3) := by decide +kernel
theorem dX9_groomHorse_10 : decode cX9_groomHorse 10 = .ok (.iconst 1, 1) := by decide +kernel
theorem dX9_groomHorse_11 : decode cX9_groomHorse 11 = .ok (.goto 11, 3) := by decide +kernel
theorem dX9_groomHorse_14 : decode cX9_groomHorse 14 = .ok (.aload_n 0, 1) := by decide +kernel
theorem dX9_groomHorse_15 : decode cX9_groomHorse 15 = .ok (.aload_n 2, 1) := by decide +kernel
theorem dX9_groomHorse_16 : decode cX9_groomHorse 16 = .ok (.invokevirtual 234, 3) := by decide +kernel
theorem dX9_groomHorse_19 : decode cX9_groomHorse 19 = .ok (.invokevirtual 231, 3) := by decide +kernel
theorem dX9_groomHorse_22 : decode cX9_groomHorse 22 = .ok (.ireturn, 1) := by decide +kernel
set_option maxRecDepth 20000 in
theorem ggX9_workInShed_X9_workerAt : GoodIn wsX9_workInShed wsX9_workerAt := goodIn_r _ [5, 6, 7, 8, 9, 10, 44, 45, 46, 47, 48, 49, 50, 51, 52, 53, 54, 55, 56, 57, 58, 59, 60] (by decide +kernel) (by decide +kernel)
set_option maxRecDepth 20000 in
theorem gX9_workInShed_X9_workerAt : GoodIn wsX9_workInShed (wsV RX9 237 RX9 yX9_workerAt wsX9_workerAt) := goodIn_app (goodIn_of _ (by decide +kernel)) ggX9_workInShed_X9_workerAt
set_option maxRecDepth 20000 in
theorem ggX9_workInShed_X1_workFor : GoodIn wsX9_workInShed wsX1_workFor := goodIn_r _ [16, 17, 18, 61, 62, 63, 64, 65, 66, 67, 68, 69, 70, 71, 72, 73, 74, 75] (by decide +kernel) (by decide +kernel)
set_option maxRecDepth 20000 in
theorem gX9_workInShed_X1_workFor_u241X1 : GoodIn wsX9_workInShed (va_wsU RX9 241 RX1 "RidingYard$Worker" ⟨"RidingYard$Worker", "workFor", "(I)I"⟩ yX1_workFor wsX1_workFor) := goodIn_app (goodIn_of _ (by decide +kernel)) ggX9_workInShed_X1_workFor
set_option maxRecDepth 20000 in
theorem ggX9_workInShed_X2_workFor : GoodIn wsX9_workInShed wsX2_workFor := goodIn_r _ [22, 23, 61, 62, 63, 64, 65, 66, 67, 68, 69, 70, 71, 72, 73, 74, 75] (by decide +kernel) (by decide +kernel)
set_option maxRecDepth 20000 in
theorem gX9_workInShed_X2_workFor_u241X2 : GoodIn wsX9_workInShed (va_wsU RX9 241 RX2 "RidingYard$Worker" ⟨"RidingYard$Worker", "workFor", "(I)I"⟩ yX2_workFor wsX2_workFor) := goodIn_app (goodIn_of _ (by decide +kernel)) ggX9_workInShed_X2_workFor
set_option maxRecDepth 20000 in
theorem ggX9_workInShed_X3_workFor : GoodIn wsX9_workInShed wsX3_workFor := goodIn_r _ [27, 28, 29, 30, 31, 32, 14, 15, 16, 17, 18, 61, 62, 63, 64, 65, 66, 67, 68, 69, 70, 71, 72, 73, 74, 75] (by decide +kernel) (by decide +kernel)
set_option maxRecDepth 20000 in
theorem gX9_workInShed_X3_workFor_u241X3 : GoodIn wsX9_workInShed (va_wsU RX9 241 RX3 "RidingYard$Worker" ⟨"RidingYard$Worker", "workFor", "(I)I"⟩ yX3_workFor wsX3_workFor) := goodIn_app (goodIn_of _ (by decide +kernel)) ggX9_workInShed_X3_workFor
set_option maxRecDepth 20000 in
theorem ggX9_workInShed_X7_workFor : GoodIn wsX9_workInShed wsX7_workFor := goodIn_r _ [36, 37, 38, 76, 77] (by decide +kernel) (by decide +kernel)
set_option maxRecDepth 20000 in
theorem gX9_workInShed_X7_workFor_u241X7 : GoodIn wsX9_workInShed (va_wsU RX9 241 RX7 "RidingYard$Worker" ⟨"RidingYard$Worker", "workFor", "(I)I"⟩ yX7_workFor wsX7_workFor) := goodIn_app (goodIn_of _ (by decide +kernel)) ggX9_workInShed_X7_workFor
set_option maxRecDepth 20000 in
theorem ggX9_workInShed_X9_comeTo : GoodIn wsX9_workInShed wsX9_comeTo := goodIn_r _ [42, 43, 44, 45, 46, 47, 48, 49, 50, 51, 52, 53, 54, 55, 56, 57, 58, 59, 60] (by decide +kernel) (by decide +kernel)
set_option maxRecDepth 20000 in
theorem gX9_workInShed_X9_comeTo : GoodIn wsX9_workInShed (wsV RX9 231 RX9 yX9_comeTo wsX9_comeTo) := goodIn_app (goodIn_of _ (by decide +kernel)) ggX9_workInShed_X9_comeTo
theorem dX9_workInShed_0 : decode cX9_workInShed 0 = .ok (.aload_n 0, 1) := by decide +kernel
theorem dX9_workInShed_1 : decode cX9_workInShed 1 = .ok (.iload_n 1, 1) := by decide +kernel
theorem dX9_workInShed_2 : decode cX9_workInShed 2 = .ok (.invokevirtual 237, 3) := by decide +kernel
theorem dX9_workInShed_5 : decode cX9_workInShed 5 = .ok (.astore_n 3, 1) := by decide +kernel
theorem dX9_workInShed_6 : decode cX9_workInShed 6 = .ok (.aload_n 3, 1) := by decide +kernel
theorem dX9_workInShed_7 : decode cX9_workInShed 7 = .ok (.ifnonnull 7, 3) := by decide +kernel
theorem dX9_workInShed_10 : decode cX9_workInShed 10 = .ok (.iconst 1, 1) := by decide +kernel
theorem dX9_workInShed_11 : decode cX9_workInShed 11 = .ok (.goto 12, 3) := by decide +kernel
theorem dX9_workInShed_14 : decode cX9_workInShed 14 = .ok (.aload_n 0, 1) := by decide +kernel
theorem dX9_workInShed_15 : decode cX9_workInShed 15 = .ok (.aload_n 3, 1) := by decide +kernel
theorem dX9_workInShed_16 : decode cX9_workInShed 16 = .ok (.iload_n 2, 1) := by decide +kernel
theorem dX9_workInShed_17 : decode cX9_workInShed 17 = .ok (.invokevirtual 241, 3) := by decide +kernel
theorem dX9_workInShed_20 : decode cX9_workInShed 20 = .ok (.invokevirtual 231, 3) := by decide +kernel
theorem dX9_workInShed_23 : decode cX9_workInShed 23 = .ok (.ireturn, 1) := by decide +kernel
set_option maxRecDepth 20000 in
theorem ggX9_askStrengthInShed_X9_workerAt : GoodIn wsX9_askStrengthInShed wsX9_workerAt := goodIn_r _ [7, 8, 9, 10, 11, 12, 33, 34, 35, 36, 37, 38, 39, 40, 41, 42, 43, 44, 45, 46, 47, 48, 49] (by decide +kernel) (by decide +kernel)
set_option maxRecDepth 20000 in
theorem gX9_askStrengthInShed_X9_workerAt : GoodIn wsX9_askStrengthInShed (wsV RX9 237 RX9 yX9_workerAt wsX9_workerAt) := goodIn_app (goodIn_of _ (by decide +kernel)) ggX9_askStrengthInShed_X9_workerAt
set_option maxRecDepth 20000 in
theorem ggX9_askStrengthInShed_X9_comeTo : GoodIn wsX9_askStrengthInShed wsX9_comeTo := goodIn_r _ [16, 17, 33, 34, 35, 36, 37, 38, 39, 40, 41, 42, 43, 44, 45, 46, 47, 48, 49] (by decide +kernel) (by decide +kernel)
set_option maxRecDepth 20000 in
theorem gX9_askStrengthInShed_X9_comeTo : GoodIn wsX9_askStrengthInShed (wsV RX9 231 RX9 yX9_comeTo wsX9_comeTo) := goodIn_app (goodIn_of _ (by decide +kernel)) ggX9_askStrengthInShed_X9_comeTo
theorem dX9_askStrengthInShed_0 : decode cX9_askStrengthInShed 0 = .ok (.aload_n 0, 1) := by decide +kernel
theorem dX9_askStrengthInShed_1 : decode cX9_askStrengthInShed 1 = .ok (.iload_n 1, 1) := by decide +kernel
theorem dX9_askStrengthInShed_2 : decode cX9_askStrengthInShed 2 = .ok (.invokevirtual 237, 3) := by decide +kernel
theorem dX9_askStrengthInShed_5 : decode cX9_askStrengthInShed 5 = .ok (.astore_n 2, 1) := by decide +kernel
theorem dX9_askStrengthInShed_6 : decode cX9_askStrengthInShed 6 = .ok (.aload_n 2, 1) := by decide +kernel
theorem dX9_askStrengthInShed_7 : decode cX9_askStrengthInShed 7 = .ok (.ifnonnull 5, 3) := by decide +kernel
theorem dX9_askStrengthInShed_10 : decode cX9_askStrengthInShed 10 = .ok (.iconst 1, 1) := by decide +kernel
theorem dX9_askStrengthInShed_11 : decode cX9_askStrengthInShed 11 = .ok (.ireturn, 1) := by decide +kernel
theorem dX9_askStrengthInShed_12 : decode cX9_askStrengthInShed 12 = .ok (.aload_n 2, 1) := by decide +kernel
theorem dX9_askStrengthInShed_13 : decode cX9_askStrengthInShed 13 = .ok (.instanceof 9, 3) := by decide +kernel
theorem dX9_askStrengthInShed_16 : decode cX9_askStrengthInShed 16 = .ok (.ifCond .eq 19, 3) := by decide +kernel
theorem dX9_askStrengthInShed_19 : decode cX9_askStrengthInShed 19 = .ok (.aload_n 2, 1) := by decide +kernel
theorem dX9_askStrengthInShed_20 : decode cX9_askStrengthInShed 20 = .ok (.checkcast 9, 3) := by decide +kernel
theorem dX9_askStrengthInShed_23 : decode cX9_askStrengthInShed 23 = .ok (.astore_n 3, 1) := by decide +kernel
theorem dX9_askStrengthInShed_24 : decode cX9_askStrengthInShed 24 = .ok (.aload_n 0, 1) := by decide +kernel
theorem dX9_askStrengthInShed_25 : decode cX9_askStrengthInShed 25 = .ok (.aload_n 3, 1) := by decide +kernel
theorem dX9_askStrengthInShed_26 : decode cX9_askStrengthInShed 26 = .ok (.getfield 134, 3) := by decide +kernel
theorem dX9_askStrengthInShed_29 : decode cX9_askStrengthInShed 29 = .ok (.invokevirtual 231, 3) := by decide +kernel
theorem dX9_askStrengthInShed_32 : decode cX9_askStrengthInShed 32 = .ok (.goto 4, 3) := by decide +kernel
theorem dX9_askStrengthInShed_35 : decode cX9_askStrengthInShed 35 = .ok (.iconst 3, 1) := by decide +kernel
theorem dX9_askStrengthInShed_36 : decode cX9_askStrengthInShed 36 = .ok (.ireturn, 1) := by decide +kernel
set_option maxRecDepth 20000 in
theorem ggX9_askRugOfHunter_X9_horseAt : GoodIn wsX9_askRugOfHunter wsX9_horseAt := goodIn_r _ [7, 8, 9, 10, 11, 12, 33, 34, 35, 36, 37, 38, 39, 40, 41, 42, 43, 44, 45, 46, 47, 48, 49] (by decide +kernel) (by decide +kernel)
set_option maxRecDepth 20000 in
theorem gX9_askRugOfHunter_X9_horseAt : GoodIn wsX9_askRugOfHunter (wsV RX9 227 RX9 yX9_horseAt wsX9_horseAt) := goodIn_app (goodIn_of _ (by decide +kernel)) ggX9_askRugOfHunter_X9_horseAt
set_option maxRecDepth 20000 in
theorem ggX9_askRugOfHunter_X9_comeTo : GoodIn wsX9_askRugOfHunter wsX9_comeTo := goodIn_r _ [16, 17, 33, 34, 35, 36, 37, 38, 39, 40, 41, 42, 43, 44, 45, 46, 47, 48, 49] (by decide +kernel) (by decide +kernel)
set_option maxRecDepth 20000 in
theorem gX9_askRugOfHunter_X9_comeTo : GoodIn wsX9_askRugOfHunter (wsV RX9 231 RX9 yX9_comeTo wsX9_comeTo) := goodIn_app (goodIn_of _ (by decide +kernel)) ggX9_askRugOfHunter_X9_comeTo
theorem dX9_askRugOfHunter_0 : decode cX9_askRugOfHunter 0 = .ok (.aload_n 0, 1) := by decide +kernel
theorem dX9_askRugOfHunter_1 : decode cX9_askRugOfHunter 1 = .ok (.iload_n 1, 1) := by decide +kernel
theorem dX9_askRugOfHunter_2 : decode cX9_askRugOfHunter 2 = .ok (.invokevirtual 227, 3) := by decide +kernel
theorem dX9_askRugOfHunter_5 : decode cX9_askRugOfHunter 5 = .ok (.astore_n 2, 1) := by decide +kernel
theorem dX9_askRugOfHunter_6 : decode cX9_askRugOfHunter 6 = .ok (.aload_n 2, 1) := by decide +kernel
theorem dX9_askRugOfHunter_7 : decode cX9_askRugOfHunter 7 = .ok (.ifnonnull 5, 3) := by decide +kernel
theorem dX9_askRugOfHunter_10 : decode cX9_askRugOfHunter 10 = .ok (.iconst 1, 1) := by decide +kernel
theorem dX9_askRugOfHunter_11 : decode cX9_askRugOfHunter 11 = .ok (.ireturn, 1) := by decide +kernel
theorem dX9_askRugOfHunter_12 : decode cX9_askRugOfHunter 12 = .ok (.aload_n 2, 1) := by decide +kernel
theorem dX9_askRugOfHunter_13 : decode cX9_askRugOfHunter 13 = .ok (.instanceof 156, 3) := by decide +kernel
theorem dX9_askRugOfHunter_16 : decode cX9_askRugOfHunter 16 = .ok (.ifCond .eq 14, 3) := by decide +kernel
theorem dX9_askRugOfHunter_19 : decode cX9_askRugOfHunter 19 = .ok (.aload_n 0, 1) := by decide +kernel
theorem dX9_askRugOfHunter_20 : decode cX9_askRugOfHunter 20 = .ok (.aload_n 2, 1) := by decide +kernel
theorem dX9_askRugOfHunter_21 : decode cX9_askRugOfHunter 21 = .ok (.getfield 140, 3) := by decide +kernel
theorem dX9_askRugOfHunter_24 : decode cX9_askRugOfHunter 24 = .ok (.invokevirtual 231, 3) := by decide +kernel
theorem dX9_askRugOfHunter_27 : decode cX9_askRugOfHunter 27 = .ok (.goto 4, 3) := by decide +kernel
theorem dX9_askRugOfHunter_30 : decode cX9_askRugOfHunter 30 = .ok (.iconst 3, 1) := by decide +kernel
theorem dX9_askRugOfHunter_31 : decode cX9_askRugOfHunter 31 = .ok (.ireturn, 1) := by decide +kernel
set_option maxRecDepth 20000 in
theorem ggX9_formTeam_X9_teamAt : GoodIn wsX9_formTeam wsX9_teamAt := goodIn_r _ [9, 10, 11, 12, 13, 14, 29, 30, 31, 32, 33, 34, 35, 36, 37, 38, 39, 40, 41, 42, 43, 44, 45] (by decide +kernel) (by decide +kernel)
set_option maxRecDepth 20000 in
theorem gX9_formTeam_X9_teamAt : GoodIn wsX9_formTeam (wsV RX9 247 RX9 yX9_teamAt wsX9_teamAt) := goodIn_app (goodIn_of _ (by decide +kernel)) ggX9_formTeam_X9_teamAt
set_option maxRecDepth 20000 in
theorem ggX9_formTeam_J9_floorMod_7cf53 : GoodIn wsX9_formTeam wsJ9_floorMod_7cf53 := goodIn_r _ [14] (by decide +kernel) (by decide +kernel)
set_option maxRecDepth 20000 in
theorem gX9_formTeam_J9_floorMod_7cf53 : GoodIn wsX9_formTeam (va_wsS RX9 222 yJ9_floorMod_7cf53 wsJ9_floorMod_7cf53) := goodIn_app (goodIn_of _ (by decide +kernel)) ggX9_formTeam_J9_floorMod_7cf53
set_option maxRecDepth 20000 in
theorem ggX9_formTeam_X6_form : GoodIn wsX9_formTeam wsX6_form := goodIn_r _ [19, 20, 21, 22, 23, 46, 47, 48, 49] (by decide +kernel) (by decide +kernel)
set_option maxRecDepth 20000 in
theorem gX9_formTeam_X6_form : GoodIn wsX9_formTeam (wsV RX9 251 RX6 yX6_form wsX6_form) := goodIn_app (goodIn_of _ (by decide +kernel)) ggX9_formTeam_X6_form
set_option maxRecDepth 20000 in
theorem ggX9_formTeam_X9_comeTo : GoodIn wsX9_formTeam wsX9_comeTo := goodIn_r _ [27, 28, 29, 30, 31, 32, 33, 34, 35, 36, 37, 38, 39, 40, 41, 42, 43, 44, 45] (by decide +kernel) (by decide +kernel)
set_option maxRecDepth 20000 in
theorem gX9_formTeam_X9_comeTo : GoodIn wsX9_formTeam (wsV RX9 231 RX9 yX9_comeTo wsX9_comeTo) := goodIn_app (goodIn_of _ (by decide +kernel)) ggX9_formTeam_X9_comeTo
theorem dX9_formTeam_0 : decode cX9_formTeam 0 = .ok (.iload_n 3, 1) := by decide +kernel
theorem dX9_formTeam_1 : decode cX9_formTeam 1 = .ok (.ifCond .ge 5, 3) := by decide +kernel
theorem dX9_formTeam_4 : decode cX9_formTeam 4 = .ok (.iconst 2, 1) := by decide +kernel
theorem dX9_formTeam_5 : decode cX9_formTeam 5 = .ok (.ireturn, 1) := by decide +kernel
theorem dX9_formTeam_6 : decode cX9_formTeam 6 = .ok (.iload_n 3, 1) := by decide +kernel
theorem dX9_formTeam_7 : decode cX9_formTeam 7 = .ok (.bipush 8, 2) := by decide +kernel
theorem dX9_formTeam_9 : decode cX9_formTeam 9 = .ok (.invokestatic 244, 3) := by decide +kernel
theorem dX9_formTeam_12 : decode cX9_formTeam 12 = .ok (.istore 4, 2) := by decide +kernel
theorem dX9_formTeam_14 : decode cX9_formTeam 14 = .ok (.aload_n 0, 1) := by decide +kernel
theorem dX9_formTeam_15 : decode cX9_formTeam 15 = .ok (.iload_n 1, 1) := by decide +kernel
theorem dX9_formTeam_16 : decode cX9_formTeam 16 = .ok (.invokevirtual 247, 3) := by decide +kernel
theorem dX9_formTeam_19 : decode cX9_formTeam 19 = .ok (.iload_n 2, 1) := by decide +kernel
theorem dX9_formTeam_20 : decode cX9_formTeam 20 = .ok (.iconst 3, 1) := by decide +kernel
theorem dX9_formTeam_21 : decode cX9_formTeam 21 = .ok (.invokestatic 222, 3) := by decide +kernel
theorem dX9_formTeam_24 : decode cX9_formTeam 24 = .ok (.iload 4, 2) := by decide +kernel
theorem dX9_formTeam_26 : decode cX9_formTeam 26 = .ok (.invokevirtual 251, 3) := by decide +kernel
theorem dX9_formTeam_29 : decode cX9_formTeam 29 = .ok (.aload_n 0, 1) := by decide +kernel
theorem dX9_formTeam_30 : decode cX9_formTeam 30 = .ok (.iload 4, 2) := by decide +kernel
theorem dX9_formTeam_32 : decode cX9_formTeam 32 = .ok (.invokevirtual 231, 3) := by decide +kernel
theorem dX9_formTeam_35 : decode cX9_formTeam 35 = .ok (.ireturn, 1) := by decide +kernel
set_option maxRecDepth 20000 in
theorem ggX9_putInTeam_X9_teamAt : GoodIn wsX9_putInTeam wsX9_teamAt := goodIn_r _ [8, 9, 10, 11, 12, 13, 53, 54, 55, 56, 57, 58, 59, 60, 61, 62, 63, 64, 65, 66, 67, 68, 69] (by decide +kernel) (by decide +kernel)
set_option maxRecDepth 20000 in
theorem gX9_putInTeam_X9_teamAt : GoodIn wsX9_putInTeam (wsV RX9 247 RX9 yX9_teamAt wsX9_teamAt) := goodIn_app (goodIn_of _ (by decide +kernel)) ggX9_putInTeam_X9_teamAt
set_option maxRecDepth 20000 in
theorem ggX9_putInTeam_X9_within : GoodIn wsX9_putInTeam wsX9_within := goodIn_r _ [16] (by decide +kernel) (by decide +kernel)
set_option maxRecDepth 20000 in
theorem gX9_putInTeam_X9_within : GoodIn wsX9_putInTeam (va_wsS RX9 63 yX9_within wsX9_within) := goodIn_app (goodIn_of _ (by decide +kernel)) ggX9_putInTeam_X9_within
set_option maxRecDepth 20000 in
theorem ggX9_putInTeam_X9_horseAt : GoodIn wsX9_putInTeam wsX9_horseAt := goodIn_r _ [20, 21, 10, 11, 12, 13, 53, 54, 55, 56, 57, 58, 59, 60, 61, 62, 63, 64, 65, 66, 67, 68, 69] (by decide +kernel) (by decide +kernel)
set_option maxRecDepth 20000 in
theorem gX9_putInTeam_X9_horseAt : GoodIn wsX9_putInTeam (wsV RX9 227 RX9 yX9_horseAt wsX9_horseAt) := goodIn_app (goodIn_of _ (by decide +kernel)) ggX9_putInTeam_X9_horseAt
set_option maxRecDepth 20000 in
theorem ggX9_putInTeam_X6_isFor : GoodIn wsX9_putInTeam wsX6_isFor := goodIn_r _ [26, 27, 28, 29, 30, 31, 32, 33, 34, 35, 36, 37, 38, 39, 40, 41, 42, 43, 49, 50, 51, 52] (by decide +kernel) (by decide +kernel)
set_option maxRecDepth 20000 in
theorem gX9_putInTeam_X6_isFor : GoodIn wsX9_putInTeam (wsV RX9 257 RX6 yX6_isFor wsX6_isFor) := goodIn_app (goodIn_of _ (by decide +kernel)) ggX9_putInTeam_X6_isFor
set_option maxRecDepth 20000 in
theorem ggX9_putInTeam_X9_comeTo : GoodIn wsX9_putInTeam wsX9_comeTo := goodIn_r _ [47, 48, 53, 54, 55, 56, 57, 58, 59, 60, 61, 62, 63, 64, 65, 66, 67, 68, 69] (by decide +kernel) (by decide +kernel)
set_option maxRecDepth 20000 in
theorem gX9_putInTeam_X9_comeTo : GoodIn wsX9_putInTeam (wsV RX9 231 RX9 yX9_comeTo wsX9_comeTo) := goodIn_app (goodIn_of _ (by decide +kernel)) ggX9_putInTeam_X9_comeTo
theorem dX9_putInTeam_0 : decode cX9_putInTeam 0 = .ok (.aload_n 0, 1) := by decide +kernel
theorem dX9_putInTeam_1 : decode cX9_putInTeam 1 = .ok (.iload_n 1, 1) := by decide +kernel
theorem dX9_putInTeam_2 : decode cX9_putInTeam 2 = .ok (.invokevirtual 247, 3) := by decide +kernel
theorem dX9_putInTeam_5 : decode cX9_putInTeam 5 = .ok (.astore 4, 2) := by decide +kernel
theorem dX9_putInTeam_7 : decode cX9_putInTeam 7 = .ok (.aload 4, 2) := by decide +kernel
theorem dX9_putInTeam_9 : decode cX9_putInTeam 9 = .ok (.getfield 160, 3) := by decide +kernel
theorem dX9_putInTeam_12 : decode cX9_putInTeam 12 = .ok (.ifCond .ne 5, 3) := by decide +kernel
theorem dX9_putInTeam_15 : decode cX9_putInTeam 15 = .ok (.iconst 1, 1) := by decide +kernel
theorem dX9_putInTeam_16 : decode cX9_putInTeam 16 = .ok (.ireturn, 1) := by decide +kernel
theorem dX9_putInTeam_17 : decode cX9_putInTeam 17 = .ok (.iload_n 2, 1) := by decide +kernel
theorem dX9_putInTeam_18 : decode cX9_putInTeam 18 = .ok (.aload 4, 2) := by decide +kernel
theorem dX9_putInTeam_20 : decode cX9_putInTeam 20 = .ok (.getfield 254, 3) := by decide +kernel
theorem dX9_putInTeam_23 : decode cX9_putInTeam 23 = .ok (.invokestatic 63, 3) := by decide +kernel
theorem dX9_putInTeam_26 : decode cX9_putInTeam 26 = .ok (.ifCond .ne 5, 3) := by decide +kernel
theorem dX9_putInTeam_29 : decode cX9_putInTeam 29 = .ok (.iconst 5, 1) := by decide +kernel
theorem dX9_putInTeam_30 : decode cX9_putInTeam 30 = .ok (.ireturn, 1) := by decide +kernel
theorem dX9_putInTeam_31 : decode cX9_putInTeam 31 = .ok (.aload_n 0, 1) := by decide +kernel
theorem dX9_putInTeam_32 : decode cX9_putInTeam 32 = .ok (.iload_n 3, 1) := by decide +kernel
theorem dX9_putInTeam_33 : decode cX9_putInTeam 33 = .ok (.invokevirtual 227, 3) := by decide +kernel
theorem dX9_putInTeam_36 : decode cX9_putInTeam 36 = .ok (.astore 5, 2) := by decide +kernel
theorem dX9_putInTeam_38 : decode cX9_putInTeam 38 = .ok (.aload 4, 2) := by decide +kernel
theorem dX9_putInTeam_40 : decode cX9_putInTeam 40 = .ok (.aload 5, 2) := by decide +kernel
theorem dX9_putInTeam_42 : decode cX9_putInTeam 42 = .ok (.invokevirtual 257, 3) := by decide +kernel
theorem dX9_putInTeam_45 : decode cX9_putInTeam 45 = .ok (.ifCond .ne 5, 3) := by decide +kernel
theorem dX9_putInTeam_48 : decode cX9_putInTeam 48 = .ok (.iconst 4, 1) := by decide +kernel
theorem dX9_putInTeam_49 : decode cX9_putInTeam 49 = .ok (.ireturn, 1) := by decide +kernel
theorem dX9_putInTeam_50 : decode cX9_putInTeam 50 = .ok (.aload 4, 2) := by decide +kernel
theorem dX9_putInTeam_52 : decode cX9_putInTeam 52 = .ok (.getfield 261, 3) := by decide +kernel
theorem dX9_putInTeam_55 : decode cX9_putInTeam 55 = .ok (.iload_n 2, 1) := by decide +kernel
theorem dX9_putInTeam_56 : decode cX9_putInTeam 56 = .ok (.aload 5, 2) := by decide +kernel
theorem dX9_putInTeam_58 : decode cX9_putInTeam 58 = .ok (.aastore, 1) := by decide +kernel
theorem dX9_putInTeam_59 : decode cX9_putInTeam 59 = .ok (.aload_n 0, 1) := by decide +kernel
theorem dX9_putInTeam_60 : decode cX9_putInTeam 60 = .ok (.iconst 1, 1) := by decide +kernel
theorem dX9_putInTeam_61 : decode cX9_putInTeam 61 = .ok (.invokevirtual 231, 3) := by decide +kernel
theorem dX9_putInTeam_64 : decode cX9_putInTeam 64 = .ok (.ireturn, 1) := by decide +kernel
set_option maxRecDepth 20000 in
theorem ggX9_takeFromTeam_X9_teamAt : GoodIn wsX9_takeFromTeam wsX9_teamAt := goodIn_r _ [9, 10, 11, 12, 13, 14, 30, 31, 32, 33, 34, 35, 36, 37, 38, 39, 40, 41, 42, 43, 44, 45, 46] (by decide +kernel) (by decide +kernel)
set_option maxRecDepth 20000 in
theorem gX9_takeFromTeam_X9_teamAt : GoodIn wsX9_takeFromTeam (wsV RX9 247 RX9 yX9_teamAt wsX9_teamAt) := goodIn_app (goodIn_of _ (by decide +kernel)) ggX9_takeFromTeam_X9_teamAt
set_option maxRecDepth 20000 in
theorem ggX9_takeFromTeam_X9_within : GoodIn wsX9_takeFromTeam wsX9_within := goodIn_r _ [17] (by decide +kernel) (by decide +kernel)
set_option maxRecDepth 20000 in
theorem gX9_takeFromTeam_X9_within : GoodIn wsX9_takeFromTeam (va_wsS RX9 63 yX9_within wsX9_within) := goodIn_app (goodIn_of _ (by decide +kernel)) ggX9_takeFromTeam_X9_within
set_option maxRecDepth 20000 in
theorem ggX9_takeFromTeam_J9_floorMod_7cf53 : GoodIn wsX9_takeFromTeam wsJ9_floorMod_7cf53 := goodIn_r _ [14] (by decide +kernel) (by decide +kernel)
set_option maxRecDepth 20000 in
theorem gX9_takeFromTeam_J9_floorMod_7cf53 : GoodIn wsX9_takeFromTeam (va_wsS RX9 222 yJ9_floorMod_7cf53 wsJ9_floorMod_7cf53) := goodIn_app (goodIn_of _ (by decide +kernel)) ggX9_takeFromTeam_J9_floorMod_7cf53
set_option maxRecDepth 20000 in
theorem ggX9_takeFromTeam_X9_oneIf : GoodIn wsX9_takeFromTeam wsX9_oneIf := goodIn_r _ [20] (by decide +kernel) (by decide +kernel)
set_option maxRecDepth 20000 in
theorem gX9_takeFromTeam_X9_oneIf : GoodIn wsX9_takeFromTeam (va_wsS RX9 85 yX9_oneIf wsX9_oneIf) := goodIn_app (goodIn_of _ (by decide +kernel)) ggX9_takeFromTeam_X9_oneIf
set_option maxRecDepth 20000 in
theorem ggX9_takeFromTeam_X9_comeTo : GoodIn wsX9_takeFromTeam wsX9_comeTo := goodIn_r _ [24, 25, 30, 31, 32, 33, 34, 35, 36, 37, 38, 39, 40, 41, 42, 43, 44, 45, 46] (by decide +kernel) (by decide +kernel)
set_option maxRecDepth 20000 in
theorem gX9_takeFromTeam_X9_comeTo : GoodIn wsX9_takeFromTeam (wsV RX9 231 RX9 yX9_comeTo wsX9_comeTo) := goodIn_app (goodIn_of _ (by decide +kernel)) ggX9_takeFromTeam_X9_comeTo
theorem dX9_takeFromTeam_0 : decode cX9_takeFromTeam 0 = .ok (.aload_n 0, 1) := by decide +kernel
theorem dX9_takeFromTeam_1 : decode cX9_takeFromTeam 1 = .ok (.iload_n 1, 1) := by decide +kernel
theorem dX9_takeFromTeam_2 : decode cX9_takeFromTeam 2 = .ok (.invokevirtual 247, 3) := by decide +kernel
theorem dX9_takeFromTeam_5 : decode cX9_takeFromTeam 5 = .ok (.astore 4, 2) := by decide +kernel
theorem dX9_takeFromTeam_7 : decode cX9_takeFromTeam 7 = .ok (.aload 4, 2) := by decide +kernel
theorem dX9_takeFromTeam_9 : decode cX9_takeFromTeam 9 = .ok (.getfield 160, 3) := by decide +kernel
theorem dX9_takeFromTeam_12 : decode cX9_takeFromTeam 12 = .ok (.ifCond .ne 5, 3) := by decide +kernel
theorem dX9_takeFromTeam_15 : decode cX9_takeFromTeam 15 = .ok (.iconst 1, 1) := by decide +kernel
theorem dX9_takeFromTeam_16 : decode cX9_takeFromTeam 16 = .ok (.ireturn, 1) := by decide +kernel
theorem dX9_takeFromTeam_17 : decode cX9_takeFromTeam 17 = .ok (.iload_n 2, 1) := by decide +kernel
theorem dX9_takeFromTeam_18 : decode cX9_takeFromTeam 18 = .ok (.aload 4, 2) := by decide +kernel
theorem dX9_takeFromTeam_20 : decode cX9_takeFromTeam 20 = .ok (.getfield 254, 3) := by decide +kernel
theorem dX9_takeFromTeam_23 : decode cX9_takeFromTeam 23 = .ok (.invokestatic 63, 3) := by decide +kernel
theorem dX9_takeFromTeam_26 : decode cX9_takeFromTeam 26 = .ok (.ifCond .ne 5, 3) := by decide +kernel
theorem dX9_takeFromTeam_29 : decode cX9_takeFromTeam 29 = .ok (.iconst 5, 1) := by decide +kernel
theorem dX9_takeFromTeam_30 : decode cX9_takeFromTeam 30 = .ok (.ireturn, 1) := by decide +kernel
theorem dX9_takeFromTeam_31 : decode cX9_takeFromTeam 31 = .ok (.aload 4, 2) := by decide +kernel
theorem dX9_takeFromTeam_33 : decode cX9_takeFromTeam 33 = .ok (.getfield 261, 3) := by decide +kernel
theorem dX9_takeFromTeam_36 : decode cX9_takeFromTeam 36 = .ok (.iload_n 2, 1) := by decide +kernel
theorem dX9_takeFromTeam_37 : decode cX9_takeFromTeam 37 = .ok (.aaload, 1) := by decide +kernel
theorem dX9_takeFromTeam_38 : decode cX9_takeFromTeam 38 = .ok (.astore 5, 2) := by decide +kernel
theorem dX9_takeFromTeam_40 : decode cX9_takeFromTeam 40 = .ok (.aload_n 0, 1) := by decide +kernel
theorem dX9_takeFromTeam_41 : decode cX9_takeFromTeam 41 = .ok (.getfield 11, 3) := by decide +kernel
theorem dX9_takeFromTeam_44 : decode cX9_takeFromTeam 44 = .ok (.iload_n 3, 1) := by decide +kernel
theorem dX9_takeFromTeam_45 : decode cX9_takeFromTeam 45 = .ok (.bipush 10, 2) := by decide +kernel
theorem dX9_takeFromTeam_47 : decode cX9_takeFromTeam 47 = .ok (.invokestatic 222, 3) := by decide +kernel
theorem dX9_takeFromTeam_50 : decode cX9_takeFromTeam 50 = .ok (.aload 5, 2) := by decide +kernel
theorem dX9_takeFromTeam_52 : decode cX9_takeFromTeam 52 = .ok (.aastore, 1) := by decide +kernel
theorem dX9_takeFromTeam_53 : decode cX9_takeFromTeam 53 = .ok (.aload_n 0, 1) := by decide +kernel
theorem dX9_takeFromTeam_54 : decode cX9_takeFromTeam 54 = .ok (.aload 5, 2) := by decide +kernel
theorem dX9_takeFromTeam_56 : decode cX9_takeFromTeam 56 = .ok (.ifnull 7, 3) := by decide +kernel
theorem dX9_takeFromTeam_59 : decode cX9_takeFromTeam 59 = .ok (.iconst 1, 1) := by decide +kernel
theorem dX9_takeFromTeam_60 : decode cX9_takeFromTeam 60 = .ok (.goto 4, 3) := by decide +kernel
theorem dX9_takeFromTeam_63 : decode cX9_takeFromTeam 63 = .ok (.iconst 0, 1) := by decide +kernel
theorem dX9_takeFromTeam_64 : decode cX9_takeFromTeam 64 = .ok (.invokestatic 85, 3) := by decide +kernel
theorem dX9_takeFromTeam_67 : decode cX9_takeFromTeam 67 = .ok (.invokevirtual 231, 3) := by decide +kernel
theorem dX9_takeFromTeam_70 : decode cX9_takeFromTeam 70 = .ok (.ireturn, 1) := by decide +kernel
set_option maxRecDepth 20000 in
theorem ggX9_askPlaces_X9_teamAt : GoodIn wsX9_askPlaces wsX9_teamAt := goodIn_r _ [7, 8, 9, 10, 11, 12, 22, 23, 24, 25, 26, 27, 28, 29, 30, 31, 32, 33, 34, 35, 36, 37, 38] (by decide +kernel) (by decide +kernel)
set_option maxRecDepth 20000 in
theorem gX9_askPlaces_X9_teamAt : GoodIn wsX9_askPlaces (wsV RX9 247 RX9 yX9_teamAt wsX9_teamAt) := goodIn_app (goodIn_of _ (by decide +kernel)) ggX9_askPlaces_X9_teamAt
set_option maxRecDepth 20000 in
theorem ggX9_askPlaces_X9_comeTo : GoodIn wsX9_askPlaces wsX9_comeTo := goodIn_r _ [16, 17, 22, 23, 24, 25, 26, 27, 28, 29, 30, 31, 32, 33, 34, 35, 36, 37, 38] (by decide +kernel) (by decide +kernel)
set_option maxRecDepth 20000 in
theorem gX9_askPlaces_X9_comeTo : GoodIn wsX9_askPlaces (wsV RX9 231 RX9 yX9_comeTo wsX9_comeTo) := goodIn_app (goodIn_of _ (by decide +kernel)) ggX9_askPlaces_X9_comeTo
theorem dX9_askPlaces_0 : decode cX9_askPlaces 0 = .ok (.aload_n 0, 1) := by decide +kernel
theorem dX9_askPlaces_1 : decode cX9_askPlaces 1 = .ok (.iload_n 1, 1) := by decide +kernel
theorem dX9_askPlaces_2 : decode cX9_askPlaces 2 = .ok (.invokevirtual 247, 3) := by decide +kernel
theorem dX9_askPlaces_5 : decode cX9_askPlaces 5 = .ok (.astore_n 2, 1) := by decide +kernel
theorem dX9_askPlaces_6 : decode cX9_askPlaces 6 = .ok (.aload_n 2, 1) := by decide +kernel
theorem dX9_askPlaces_7 : decode cX9_askPlaces 7 = .ok (.getfield 160, 3) := by decide +kernel
theorem dX9_askPlaces_10 : decode cX9_askPlaces 10 = .ok (.ifCond .eq 14, 3) := by decide +kernel
theorem dX9_askPlaces_13 : decode cX9_askPlaces 13 = .ok (.aload_n 0, 1) := by decide +kernel
theorem dX9_askPlaces_14 : decode cX9_askPlaces 14 = .ok (.aload_n 2, 1) := by decide +kernel
theorem dX9_askPlaces_15 : decode cX9_askPlaces 15 = .ok (.getfield 254, 3) := by decide +kernel
theorem dX9_askPlaces_18 : decode cX9_askPlaces 18 = .ok (.invokevirtual 231, 3) := by decide +kernel
theorem dX9_askPlaces_21 : decode cX9_askPlaces 21 = .ok (.goto 4, 3) := by decide +kernel
theorem dX9_askPlaces_24 : decode cX9_askPlaces 24 = .ok (.iconst 1, 1) := by decide +kernel
theorem dX9_askPlaces_25 : decode cX9_askPlaces 25 = .ok (.ireturn, 1) := by decide +kernel
set_option maxRecDepth 20000 in
theorem ggX9_workTeam_X9_teamAt : GoodIn wsX9_workTeam wsX9_teamAt := goodIn_r _ [8, 9, 10, 11, 12, 13, 47, 48, 49, 50, 51, 52, 53, 54, 55, 56, 57, 58, 59, 60, 61, 62, 63] (by decide +kernel) (by decide +kernel)
set_option maxRecDepth 20000 in
theorem gX9_workTeam_X9_teamAt : GoodIn wsX9_workTeam (wsV RX9 247 RX9 yX9_teamAt wsX9_teamAt) := goodIn_app (goodIn_of _ (by decide +kernel)) ggX9_workTeam_X9_teamAt
set_option maxRecDepth 20000 in
theorem ggX9_workTeam_X1_workFor : GoodIn wsX9_workTeam wsX1_workFor := goodIn_r _ [20, 21, 22, 64, 65, 66, 67, 68, 69, 70, 71, 72, 73, 74, 75, 76, 77, 78] (by decide +kernel) (by decide +kernel)
set_option maxRecDepth 20000 in
theorem gX9_workTeam_X1_workFor_u264X1 : GoodIn wsX9_workTeam (va_wsO RX9 264 RX1 "RidingYard$Horse" ⟨"RidingYard$Horse", "workFor", "(I)I"⟩ yX1_workFor wsX1_workFor) := goodIn_app (goodIn_of _ (by decide +kernel)) ggX9_workTeam_X1_workFor
set_option maxRecDepth 20000 in
theorem ggX9_workTeam_X2_workFor : GoodIn wsX9_workTeam wsX2_workFor := goodIn_r _ [23, 28, 64, 65, 66, 67, 68, 69, 70, 71, 72, 73, 74, 75, 76, 77, 78] (by decide +kernel) (by decide +kernel)
set_option maxRecDepth 20000 in
theorem gX9_workTeam_X2_workFor : GoodIn wsX9_workTeam (wsV RX9 264 RX2 yX2_workFor wsX2_workFor) := goodIn_app (goodIn_of _ (by decide +kernel)) ggX9_workTeam_X2_workFor
set_option maxRecDepth 20000 in
theorem ggX9_workTeam_X3_workFor : GoodIn wsX9_workTeam wsX3_workFor := goodIn_r _ [32, 33, 34, 35, 36, 37, 18, 19, 20, 21, 22, 64, 65, 66, 67, 68, 69, 70, 71, 72, 73, 74, 75, 76, 77, 78] (by decide +kernel) (by decide +kernel)
set_option maxRecDepth 20000 in
theorem gX9_workTeam_X3_workFor_u264X3 : GoodIn wsX9_workTeam (va_wsO RX9 264 RX3 "RidingYard$Horse" ⟨"RidingYard$Horse", "workFor", "(I)I"⟩ yX3_workFor wsX3_workFor) := goodIn_app (goodIn_of _ (by decide +kernel)) ggX9_workTeam_X3_workFor
set_option maxRecDepth 20000 in
theorem ggX9_workTeam_X9_comeTo : GoodIn wsX9_workTeam wsX9_comeTo := goodIn_r _ [41, 42, 47, 48, 49, 50, 51, 52, 53, 54, 55, 56, 57, 58, 59, 60, 61, 62, 63] (by decide +kernel) (by decide +kernel)
set_option maxRecDepth 20000 in
theorem gX9_workTeam_X9_comeTo : GoodIn wsX9_workTeam (wsV RX9 231 RX9 yX9_comeTo wsX9_comeTo) := goodIn_app (goodIn_of _ (by decide +kernel)) ggX9_workTeam_X9_comeTo
theorem dX9_workTeam_0 : decode cX9_workTeam 0 = .ok (.aload_n 0, 1) := by decide +kernel
theorem dX9_workTeam_1 : decode cX9_workTeam 1 = .ok (.iload_n 1, 1) := by decide +kernel
theorem dX9_workTeam_2 : decode cX9_workTeam 2 = .ok (.invokevirtual 247, 3) := by decide +kernel
theorem dX9_workTeam_5 : decode cX9_workTeam 5 = .ok (.astore_n 3, 1) := by decide +kernel
theorem dX9_workTeam_6 : decode cX9_workTeam 6 = .ok (.aload_n 3, 1) := by decide +kernel
theorem dX9_workTeam_7 : decode cX9_workTeam 7 = .ok (.getfield 160, 3) := by decide +kernel
theorem dX9_workTeam_10 : decode cX9_workTeam 10 = .ok (.ifCond .ne 5, 3) := by decide +kernel
theorem dX9_workTeam_13 : decode cX9_workTeam 13 = .ok (.iconst 1, 1) := by decide +kernel
theorem dX9_workTeam_14 : decode cX9_workTeam 14 = .ok (.ireturn, 1) := by decide +kernel
theorem dX9_workTeam_15 : decode cX9_workTeam 15 = .ok (.iconst 0, 1) := by decide +kernel
theorem dX9_workTeam_16 : decode cX9_workTeam 16 = .ok (.istore 4, 2) := by decide +kernel
theorem dX9_workTeam_18 : decode cX9_workTeam 18 = .ok (.iconst 0, 1) := by decide +kernel
theorem dX9_workTeam_19 : decode cX9_workTeam 19 = .ok (.istore 5, 2) := by decide +kernel
theorem dX9_workTeam_21 : decode cX9_workTeam 21 = .ok (.iload 5, 2) := by decide +kernel
