set_option maxRecDepth 20000 in
theorem ggX4_init_X2_init : GoodIn wsX4_init wsX2_init := goodIn_r _ [22, 23, 2, 3, 24, 25, 26, 27, 28, 7, 29, 30, 31, 32, 33, 34, 47, 48, 49, 50, 51, 52, 53, 54, 55] (by decide +kernel) (by decide +kernel)
set_option maxRecDepth 20000 in
theorem gX4_init_X2_init_n36 : GoodIn wsX4_init (wsX2_init) := ggX4_init_X2_init
set_option maxRecDepth 20000 in
theorem ggX4_init_X0_init : GoodIn wsX4_init wsX0_init := goodIn_r _ [36, 37, 2, 3, 38, 39, 56, 57] (by decide +kernel) (by decide +kernel)
set_option maxRecDepth 20000 in
theorem gX4_init_X0_init_n43 : GoodIn wsX4_init (wsX0_init) := ggX4_init_X0_init
theorem dX4_init_0 : decode cX4_init 0 = .ok (.aload_n 0, 1) := by decide +kernel
theorem dX4_init_1 : decode cX4_init 1 = .ok (.invokespecial 1, 3) := by decide +kernel
theorem dX4_init_4 : decode cX4_init 4 = .ok (.aload_n 0, 1) := by decide +kernel
theorem dX4_init_5 : decode cX4_init 5 = .ok (.bipush 50, 2) := by decide +kernel
theorem dX4_init_7 : decode cX4_init 7 = .ok (.anewarray 9, 3) := by decide +kernel
theorem dX4_init_10 : decode cX4_init 10 = .ok (.putfield 11, 3) := by decide +kernel
theorem dX4_init_13 : decode cX4_init 13 = .ok (.aload_n 0, 1) := by decide +kernel
theorem dX4_init_14 : decode cX4_init 14 = .ok (.iconst 0, 1) := by decide +kernel
theorem dX4_init_15 : decode cX4_init 15 = .ok (.putfield 15, 3) := by decide +kernel
theorem dX4_init_18 : decode cX4_init 18 = .ok (.aload_n 0, 1) := by decide +kernel
theorem dX4_init_19 : decode cX4_init 19 = .ok (.iconst 4, 1) := by decide +kernel
theorem dX4_init_20 : decode cX4_init 20 = .ok (.newarray .long, 2) := by decide +kernel
theorem dX4_init_22 : decode cX4_init 22 = .ok (.dup, 1) := by decide +kernel
theorem dX4_init_23 : decode cX4_init 23 = .ok (.iconst 0, 1) := by decide +kernel
theorem dX4_init_24 : decode cX4_init 24 = .ok (.ldc2_w 19, 3) := by decide +kernel
theorem dX4_init_27 : decode cX4_init 27 = .ok (.lastore, 1) := by decide +kernel
theorem dX4_init_28 : decode cX4_init 28 = .ok (.dup, 1) := by decide +kernel
theorem dX4_init_29 : decode cX4_init 29 = .ok (.iconst 1, 1) := by decide +kernel
theorem dX4_init_30 : decode cX4_init 30 = .ok (.ldc2_w 19, 3) := by decide +kernel
theorem dX4_init_33 : decode cX4_init 33 = .ok (.lastore, 1) := by decide +kernel
theorem dX4_init_34 : decode cX4_init 34 = .ok (.dup, 1) := by decide +kernel
theorem dX4_init_35 : decode cX4_init 35 = .ok (.iconst 2, 1) := by decide +kernel
theorem dX4_init_36 : decode cX4_init 36 = .ok (.ldc2_w 19, 3) := by decide +kernel
theorem dX4_init_39 : decode cX4_init 39 = .ok (.lastore, 1) := by decide +kernel
theorem dX4_init_40 : decode cX4_init 40 = .ok (.dup, 1) := by decide +kernel
theorem dX4_init_41 : decode cX4_init 41 = .ok (.iconst 3, 1) := by decide +kernel
theorem dX4_init_42 : decode cX4_init 42 = .ok (.ldc2_w 19, 3) := by decide +kernel
theorem dX4_init_45 : decode cX4_init 45 = .ok (.lastore, 1) := by decide +kernel
theorem dX4_init_46 : decode cX4_init 46 = .ok (.putfield 21, 3) := by decide +kernel
theorem dX4_init_49 : decode cX4_init 49 = .ok (.aload_n 0, 1) := by decide +kernel
theorem dX4_init_50 : decode cX4_init 50 = .ok (.bipush 100, 2) := by decide +kernel
theorem dX4_init_52 : decode cX4_init 52 = .ok (.anewarray 25, 3) := by decide +kernel
theorem dX4_init_55 : decode cX4_init 55 = .ok (.putfield 27, 3) := by decide +kernel
theorem dX4_init_58 : decode cX4_init 58 = .ok (.aload_n 0, 1) := by decide +kernel
theorem dX4_init_59 : decode cX4_init 59 = .ok (.iconst 0, 1) := by decide +kernel
theorem dX4_init_60 : decode cX4_init 60 = .ok (.putfield 31, 3) := by decide +kernel
theorem dX4_init_63 : decode cX4_init 63 = .ok (.aload_n 0, 1) := by decide +kernel
theorem dX4_init_64 : decode cX4_init 64 = .ok (.new 34, 3) := by decide +kernel
theorem dX4_init_67 : decode cX4_init 67 = .ok (.dup, 1) := by decide +kernel
theorem dX4_init_68 : decode cX4_init 68 = .ok (.invokespecial 36, 3) := by decide +kernel
theorem dX4_init_71 : decode cX4_init 71 = .ok (.putfield 37, 3) := by decide +kernel
theorem dX4_init_74 : decode cX4_init 74 = .ok (.aload_n 0, 1) := by decide +kernel
theorem dX4_init_75 : decode cX4_init 75 = .ok (.new 41, 3) := by decide +kernel
theorem dX4_init_78 : decode cX4_init 78 = .ok (.dup, 1) := by decide +kernel
theorem dX4_init_79 : decode cX4_init 79 = .ok (.invokespecial 43, 3) := by decide +kernel
theorem dX4_init_82 : decode cX4_init 82 = .ok (.putfield 44, 3) := by decide +kernel
theorem dX4_init_85 : decode cX4_init 85 = .ok (.return_, 1) := by decide +kernel
set_option maxRecDepth 20000 in
theorem ggX4_name_X4_isSide : GoodIn wsX4_name wsX4_isSide := goodIn_r _ [9] (by decide +kernel) (by decide +kernel)
set_option maxRecDepth 20000 in
theorem gX4_name_X4_isSide : GoodIn wsX4_name (va_wsS RX4 48 yX4_isSide wsX4_isSide) := goodIn_app (goodIn_of _ (by decide +kernel)) ggX4_name_X4_isSide
set_option maxRecDepth 20000 in
theorem ggX4_name_X3_init : GoodIn wsX4_name wsX3_init := goodIn_r _ [12, 13, 14, 15, 16, 17, 18, 19, 20, 21, 22, 23, 24, 32, 33, 34, 35, 36, 37, 38, 39] (by decide +kernel) (by decide +kernel)
set_option maxRecDepth 20000 in
theorem gX4_name_X3_init : GoodIn wsX4_name (wsX3_init) := ggX4_name_X3_init
theorem dX4_name_0 : decode cX4_name 0 = .ok (.iload_n 1, 1) := by decide +kernel
theorem dX4_name_1 : decode cX4_name 1 = .ok (.invokestatic 48, 3) := by decide +kernel
theorem dX4_name_4 : decode cX4_name 4 = .ok (.ifCond .eq 12, 3) := by decide +kernel
theorem dX4_name_7 : decode cX4_name 7 = .ok (.aload_n 0, 1) := by decide +kernel
theorem dX4_name_8 : decode cX4_name 8 = .ok (.getfield 15, 3) := by decide +kernel
theorem dX4_name_11 : decode cX4_name 11 = .ok (.bipush 50, 2) := by decide +kernel
theorem dX4_name_13 : decode cX4_name 13 = .ok (.if_icmp .lt 5, 3) := by decide +kernel
theorem dX4_name_16 : decode cX4_name 16 = .ok (.iconst 0, 1) := by decide +kernel
theorem dX4_name_17 : decode cX4_name 17 = .ok (.ireturn, 1) := by decide +kernel
theorem dX4_name_18 : decode cX4_name 18 = .ok (.aload_n 0, 1) := by decide +kernel
theorem dX4_name_19 : decode cX4_name 19 = .ok (.getfield 11, 3) := by decide +kernel
theorem dX4_name_22 : decode cX4_name 22 = .ok (.aload_n 0, 1) := by decide +kernel
theorem dX4_name_23 : decode cX4_name 23 = .ok (.getfield 15, 3) := by decide +kernel
theorem dX4_name_26 : decode cX4_name 26 = .ok (.new 9, 3) := by decide +kernel
theorem dX4_name_29 : decode cX4_name 29 = .ok (.dup, 1) := by decide +kernel
theorem dX4_name_30 : decode cX4_name 30 = .ok (.iload_n 1, 1) := by decide +kernel
theorem dX4_name_31 : decode cX4_name 31 = .ok (.invokespecial 52, 3) := by decide +kernel
theorem dX4_name_34 : decode cX4_name 34 = .ok (.aastore, 1) := by decide +kernel
theorem dX4_name_35 : decode cX4_name 35 = .ok (.aload_n 0, 1) := by decide +kernel
theorem dX4_name_36 : decode cX4_name 36 = .ok (.dup, 1) := by decide +kernel
theorem dX4_name_37 : decode cX4_name 37 = .ok (.getfield 15, 3) := by decide +kernel
theorem dX4_name_40 : decode cX4_name 40 = .ok (.iconst 1, 1) := by decide +kernel
theorem dX4_name_41 : decode cX4_name 41 = .ok (.iadd, 1) := by decide +kernel
theorem dX4_name_42 : decode cX4_name 42 = .ok (.putfield 15, 3) := by decide +kernel
theorem dX4_name_45 : decode cX4_name 45 = .ok (.aload_n 0, 1) := by decide +kernel
theorem dX4_name_46 : decode cX4_name 46 = .ok (.getfield 15, 3) := by decide +kernel
theorem dX4_name_49 : decode cX4_name 49 = .ok (.ireturn, 1) := by decide +kernel
set_option maxRecDepth 20000 in
theorem ggX4_token_X4_find : GoodIn wsX4_token wsX4_find := goodIn_r _ [5, 6, 7, 20, 21, 22, 23, 24, 25, 26] (by decide +kernel) (by decide +kernel)
set_option maxRecDepth 20000 in
theorem gX4_token_X4_find : GoodIn wsX4_token (wsV RX4 55 RX4 yX4_find wsX4_find) := goodIn_app (goodIn_of _ (by decide +kernel)) ggX4_token_X4_find
set_option maxRecDepth 20000 in
theorem ggX4_token_X3_addToken : GoodIn wsX4_token wsX3_addToken := goodIn_ca (goodIn_r _ [12, 13, 14, 15, 16, 17, 18, 11, 19, 27, 28, 29, 30, 31, 32, 33, 34] (by decide +kernel) (by decide +kernel)) (goodIn_sub (fun _ h => List.mem_cons_of_mem _ (List.mem_append_right _ h)) (by decide +kernel))
set_option maxRecDepth 20000 in
theorem gX4_token_X3_addToken : GoodIn wsX4_token (wsV RX4 59 RX3 yX3_addToken wsX3_addToken) := goodIn_app (goodIn_of _ (by decide +kernel)) ggX4_token_X3_addToken
theorem dX4_token_0 : decode cX4_token 0 = .ok (.aload_n 0, 1) := by decide +kernel
theorem dX4_token_1 : decode cX4_token 1 = .ok (.iload_n 1, 1) := by decide +kernel
theorem dX4_token_2 : decode cX4_token 2 = .ok (.invokevirtual 55, 3) := by decide +kernel
theorem dX4_token_5 : decode cX4_token 5 = .ok (.astore 4, 2) := by decide +kernel
theorem dX4_token_7 : decode cX4_token 7 = .ok (.aload 4, 2) := by decide +kernel
theorem dX4_token_9 : decode cX4_token 9 = .ok (.ifnull 12, 3) := by decide +kernel
theorem dX4_token_12 : decode cX4_token 12 = .ok (.iload_n 3, 1) := by decide +kernel
theorem dX4_token_13 : decode cX4_token 13 = .ok (.ifCond .lt 8, 3) := by decide +kernel
theorem dX4_token_16 : decode cX4_token 16 = .ok (.iload_n 3, 1) := by decide +kernel
theorem dX4_token_17 : decode cX4_token 17 = .ok (.iconst 3, 1) := by decide +kernel
theorem dX4_token_18 : decode cX4_token 18 = .ok (.if_icmp .lt 4, 3) := by decide +kernel
theorem dX4_token_21 : decode cX4_token 21 = .ok (.return_, 1) := by decide +kernel
theorem dX4_token_22 : decode cX4_token 22 = .ok (.aload 4, 2) := by decide +kernel
theorem dX4_token_24 : decode cX4_token 24 = .ok (.iload_n 2, 1) := by decide +kernel
theorem dX4_token_25 : decode cX4_token 25 = .ok (.iload_n 3, 1) := by decide +kernel
theorem dX4_token_26 : decode cX4_token 26 = .ok (.invokevirtual 59, 3) := by decide +kernel
theorem dX4_token_29 : decode cX4_token 29 = .ok (.return_, 1) := by decide +kernel
set_option maxRecDepth 20000 in
theorem ggX4_date_X4_find : GoodIn wsX4_date wsX4_find := goodIn_r _ [5, 6, 7, 16, 17, 18, 19, 20, 21, 22] (by decide +kernel) (by decide +kernel)
set_option maxRecDepth 20000 in
theorem gX4_date_X4_find : GoodIn wsX4_date (wsV RX4 55 RX4 yX4_find wsX4_find) := goodIn_app (goodIn_of _ (by decide +kernel)) ggX4_date_X4_find
set_option maxRecDepth 20000 in
theorem ggX4_date_X3_setDates : GoodIn wsX4_date wsX3_setDates := goodIn_r _ [12, 13, 14, 15, 23, 24, 25, 26, 27, 28, 29, 30] (by decide +kernel) (by decide +kernel)
set_option maxRecDepth 20000 in
theorem gX4_date_X3_setDates : GoodIn wsX4_date (wsV RX4 63 RX3 yX3_setDates wsX3_setDates) := goodIn_app (goodIn_of _ (by decide +kernel)) ggX4_date_X3_setDates
theorem dX4_date_0 : decode cX4_date 0 = .ok (.aload_n 0, 1) := by decide +kernel
theorem dX4_date_1 : decode cX4_date 1 = .ok (.iload_n 1, 1) := by decide +kernel
theorem dX4_date_2 : decode cX4_date 2 = .ok (.invokevirtual 55, 3) := by decide +kernel
theorem dX4_date_5 : decode cX4_date 5 = .ok (.astore 6, 2) := by decide +kernel
theorem dX4_date_7 : decode cX4_date 7 = .ok (.aload 6, 2) := by decide +kernel
theorem dX4_date_9 : decode cX4_date 9 = .ok (.ifnull 10, 3) := by decide +kernel
theorem dX4_date_12 : decode cX4_date 12 = .ok (.lload 4, 2) := by decide +kernel
theorem dX4_date_14 : decode cX4_date 14 = .ok (.lload_n 2, 1) := by decide +kernel
theorem dX4_date_15 : decode cX4_date 15 = .ok (.lcmp, 1) := by decide +kernel
theorem dX4_date_16 : decode cX4_date 16 = .ok (.ifCond .ge 4, 3) := by decide +kernel
theorem dX4_date_19 : decode cX4_date 19 = .ok (.return_, 1) := by decide +kernel
theorem dX4_date_20 : decode cX4_date 20 = .ok (.aload 6, 2) := by decide +kernel
theorem dX4_date_22 : decode cX4_date 22 = .ok (.lload_n 2, 1) := by decide +kernel
theorem dX4_date_23 : decode cX4_date 23 = .ok (.lload 4, 2) := by decide +kernel
theorem dX4_date_25 : decode cX4_date 25 = .ok (.invokevirtual 63, 3) := by decide +kernel
theorem dX4_date_28 : decode cX4_date 28 = .ok (.return_, 1) := by decide +kernel
theorem dX4_weight_0 : decode cX4_weight 0 = .ok (.iload_n 1, 1) := by decide +kernel
theorem dX4_weight_1 : decode cX4_weight 1 = .ok (.ifCond .lt 38, 3) := by decide +kernel
theorem dX4_weight_4 : decode cX4_weight 4 = .ok (.iload_n 1, 1) := by decide +kernel
theorem dX4_weight_5 : decode cX4_weight 5 = .ok (.iconst 4, 1) := by decide +kernel
theorem dX4_weight_6 : decode cX4_weight 6 = .ok (.if_icmp .ge 33, 3) := by decide +kernel
theorem dX4_weight_9 : decode cX4_weight 9 = .ok (.lload_n 2, 1) := by decide +kernel
theorem dX4_weight_10 : decode cX4_weight 10 = .ok (.lconst 0, 1) := by decide +kernel
theorem dX4_weight_11 : decode cX4_weight 11 = .ok (.lcmp, 1) := by decide +kernel
theorem dX4_weight_12 : decode cX4_weight 12 = .ok (.ifCond .lt 27, 3) := by decide +kernel
theorem dX4_weight_15 : decode cX4_weight 15 = .ok (.lload_n 2, 1) := by decide +kernel
theorem dX4_weight_16 : decode cX4_weight 16 = .ok (.ldc2_w 67, 3) := by decide +kernel
theorem dX4_weight_19 : decode cX4_weight 19 = .ok (.lcmp, 1) := by decide +kernel
theorem dX4_weight_20 : decode cX4_weight 20 = .ok (.ifCond .gt 19, 3) := by decide +kernel
theorem dX4_weight_23 : decode cX4_weight 23 = .ok (.lload 4, 2) := by decide +kernel
theorem dX4_weight_25 : decode cX4_weight 25 = .ok (.lconst 1, 1) := by decide +kernel
theorem dX4_weight_26 : decode cX4_weight 26 = .ok (.lcmp, 1) := by decide +kernel
theorem dX4_weight_27 : decode cX4_weight 27 = .ok (.ifCond .lt 12, 3) := by decide +kernel
theorem dX4_weight_30 : decode cX4_weight 30 = .ok (.lload 4, 2) := by decide +kernel
theorem dX4_weight_32 : decode cX4_weight 32 = .ok (.ldc2_w 69, 3) := by decide +kernel
theorem dX4_weight_35 : decode cX4_weight 35 = .ok (.lcmp, 1) := by decide +kernel
theorem dX4_weight_36 : decode cX4_weight 36 = .ok (.ifCond .le 5, 3) := by decide +kernel
theorem dX4_weight_39 : decode cX4_weight 39 = .ok (.iconst 0, 1) := by decide +kernel
theorem dX4_weight_40 : decode cX4_weight 40 = .ok (.ireturn, 1) := by decide +kernel
theorem dX4_weight_41 : decode cX4_weight 41 = .ok (.aload_n 0, 1) := by decide +kernel
theorem dX4_weight_42 : decode cX4_weight 42 = .ok (.getfield 21, 3) := by decide +kernel
theorem dX4_weight_45 : decode cX4_weight 45 = .ok (.iload_n 1, 1) := by decide +kernel
theorem dX4_weight_46 : decode cX4_weight 46 = .ok (.lload_n 2, 1) := by decide +kernel
theorem dX4_weight_47 : decode cX4_weight 47 = .ok (.ldc2_w 19, 3) := by decide +kernel
theorem dX4_weight_50 : decode cX4_weight 50 = .ok (.lload 4, 2) := by decide +kernel
theorem dX4_weight_52 : decode cX4_weight 52 = .ok (.ldiv, 1) := by decide +kernel
theorem dX4_weight_53 : decode cX4_weight 53 = .ok (.lmul, 1) := by decide +kernel
theorem dX4_weight_54 : decode cX4_weight 54 = .ok (.lastore, 1) := by decide +kernel
theorem dX4_weight_55 : decode cX4_weight 55 = .ok (.iconst 1, 1) := by decide +kernel
theorem dX4_weight_56 : decode cX4_weight 56 = .ok (.ireturn, 1) := by decide +kernel
set_option maxRecDepth 20000 in
theorem ggX4_run_X2_begin : GoodIn wsX4_run wsX2_begin := goodIn_ca (goodIn_r _ [7, 8, 9, 10, 116, 117, 118, 119, 120, 121, 122, 123, 124] (by decide +kernel) (by decide +kernel)) (goodIn_sub (fun _ h => List.mem_cons_of_mem _ (List.mem_append_right _ h)) (by decide +kernel))
set_option maxRecDepth 20000 in
theorem gX4_run_X2_begin : GoodIn wsX4_run (wsV RX4 71 RX2 yX2_begin wsX2_begin) := goodIn_app (goodIn_of _ (by decide +kernel)) ggX4_run_X2_begin
set_option maxRecDepth 20000 in
theorem ggX4_run_X4_find : GoodIn wsX4_run wsX4_find := goodIn_r _ [15, 2, 16, 109, 110, 111, 112, 113, 114, 115] (by decide +kernel) (by decide +kernel)
set_option maxRecDepth 20000 in
theorem gX4_run_X4_find : GoodIn wsX4_run (wsV RX4 55 RX4 yX4_find wsX4_find) := goodIn_app (goodIn_of _ (by decide +kernel)) ggX4_run_X4_find
set_option maxRecDepth 20000 in
theorem ggX4_run_X3_mayPair : GoodIn wsX4_run wsX3_mayPair := goodIn_r _ [21, 22, 23, 24, 125, 126, 127, 128, 129, 130, 131, 132] (by decide +kernel) (by decide +kernel)
set_option maxRecDepth 20000 in
theorem gX4_run_X3_mayPair : GoodIn wsX4_run (wsV RX4 74 RX3 yX3_mayPair wsX3_mayPair) := goodIn_app (goodIn_of _ (by decide +kernel)) ggX4_run_X3_mayPair
set_option maxRecDepth 20000 in
theorem ggX4_run_X4_listPairsOf : GoodIn wsX4_run wsX4_listPairsOf := goodIn_ca (goodIn_r _ [28, 2, 29, 30, 1, 11, 12, 13, 14, 15, 16, 17, 18, 19, 20, 21, 22, 23, 24, 31, 32, 33, 34, 35, 36, 37, 38, 39, 40, 41, 42, 43, 44, 45, 46, 47, 48, 49, 50, 51, 52, 53, 54, 55, 56, 57, 58, 59, 60, 61, 62, 63, 64, 65, 66, 67, 68, 69, 70, 71, 72, 73, 74, 75, 6, 76, 9, 77, 78, 79, 80, 81, 82, 83, 10, 109, 110, 111, 112, 113, 114, 115, 125, 126, 127, 128, 129, 130, 131, 132, 133, 134, 116, 117, 118, 119, 120, 121, 122, 123, 124] (by decide +kernel) (by decide +kernel)) (goodIn_sub (fun _ h => List.mem_cons_of_mem _ (List.mem_append_right _ h)) (by decide +kernel))
set_option maxRecDepth 20000 in
theorem gX4_run_X4_listPairsOf : GoodIn wsX4_run (wsV RX4 77 RX4 yX4_listPairsOf wsX4_listPairsOf) := goodIn_app (goodIn_of _ (by decide +kernel)) ggX4_run_X4_listPairsOf
set_option maxRecDepth 20000 in
theorem ggX4_run_X2_sort : GoodIn wsX4_run wsX2_sort := goodIn_ca (goodIn_r _ [87, 9, 88, 89, 90, 91, 92, 83, 93, 94, 95, 96, 97, 98, 99, 6, 100, 101, 102, 103, 104, 79, 81, 116, 117, 118, 119, 120, 121, 122, 123, 124] (by decide +kernel) (by decide +kernel)) (goodIn_sub (fun _ h => List.mem_cons_of_mem _ (List.mem_append_right _ h)) (by decide +kernel))
set_option maxRecDepth 20000 in
theorem gX4_run_X2_sort : GoodIn wsX4_run (wsV RX4 81 RX2 yX2_sort wsX2_sort) := goodIn_app (goodIn_of _ (by decide +kernel)) ggX4_run_X2_sort
set_option maxRecDepth 20000 in
theorem ggX4_run_X2_size : GoodIn wsX4_run wsX2_size := goodIn_r _ [108, 9, 116, 117, 118, 119, 120, 121, 122, 123, 124] (by decide +kernel) (by decide +kernel)
set_option maxRecDepth 20000 in
theorem gX4_run_X2_size : GoodIn wsX4_run (wsV RX4 84 RX2 yX2_size wsX2_size) := goodIn_app (goodIn_of _ (by decide +kernel)) ggX4_run_X2_size
theorem dX4_run_0 : decode cX4_run 0 = .ok (.aload_n 0, 1) := by decide +kernel
theorem dX4_run_1 : decode cX4_run 1 = .ok (.getfield 37, 3) := by decide +kernel
theorem dX4_run_4 : decode cX4_run 4 = .ok (.invokevirtual 71, 3) := by decide +kernel
theorem dX4_run_7 : decode cX4_run 7 = .ok (.iconst 1, 1) := by decide +kernel
theorem dX4_run_8 : decode cX4_run 8 = .ok (.istore_n 1, 1) := by decide +kernel
theorem dX4_run_9 : decode cX4_run 9 = .ok (.iload_n 1, 1) := by decide +kernel
theorem dX4_run_10 : decode cX4_run 10 = .ok (.aload_n 0, 1) := by decide +kernel
theorem dX4_run_11 : decode cX4_run 11 = .ok (.getfield 15, 3) := by decide +kernel
theorem dX4_run_14 : decode cX4_run 14 = .ok (.if_icmp .gt 33, 3) := by decide +kernel
theorem dX4_run_17 : decode cX4_run 17 = .ok (.aload_n 0, 1) := by decide +kernel
theorem dX4_run_18 : decode cX4_run 18 = .ok (.iload_n 1, 1) := by decide +kernel
theorem dX4_run_19 : decode cX4_run 19 = .ok (.invokevirtual 55, 3) := by decide +kernel
theorem dX4_run_22 : decode cX4_run 22 = .ok (.astore_n 2, 1) := by decide +kernel
theorem dX4_run_23 : decode cX4_run 23 = .ok (.aload_n 2, 1) := by decide +kernel
theorem dX4_run_24 : decode cX4_run 24 = .ok (.ifnull 17, 3) := by decide +kernel
theorem dX4_run_27 : decode cX4_run 27 = .ok (.aload_n 2, 1) := by decide +kernel
theorem dX4_run_28 : decode cX4_run 28 = .ok (.iconst 0, 1) := by decide +kernel
theorem dX4_run_29 : decode cX4_run 29 = .ok (.invokevirtual 74, 3) := by decide +kernel
theorem dX4_run_32 : decode cX4_run 32 = .ok (.ifCond .eq 9, 3) := by decide +kernel
theorem dX4_run_35 : decode cX4_run 35 = .ok (.aload_n 0, 1) := by decide +kernel
theorem dX4_run_36 : decode cX4_run 36 = .ok (.iload_n 1, 1) := by decide +kernel
theorem dX4_run_37 : decode cX4_run 37 = .ok (.aload_n 2, 1) := by decide +kernel
theorem dX4_run_38 : decode cX4_run 38 = .ok (.invokevirtual 77, 3) := by decide +kernel
theorem dX4_run_41 : decode cX4_run 41 = .ok (.iinc 1 1, 3) := by decide +kernel
theorem dX4_run_44 : decode cX4_run 44 = .ok (.goto (-35), 3) := by decide +kernel
theorem dX4_run_47 : decode cX4_run 47 = .ok (.aload_n 0, 1) := by decide +kernel
theorem dX4_run_48 : decode cX4_run 48 = .ok (.getfield 37, 3) := by decide +kernel
theorem dX4_run_51 : decode cX4_run 51 = .ok (.invokevirtual 81, 3) := by decide +kernel
theorem dX4_run_54 : decode cX4_run 54 = .ok (.aload_n 0, 1) := by decide +kernel
theorem dX4_run_55 : decode cX4_run 55 = .ok (.getfield 37, 3) := by decide +kernel
theorem dX4_run_58 : decode cX4_run 58 = .ok (.invokevirtual 84, 3) := by decide +kernel
theorem dX4_run_61 : decode cX4_run 61 = .ok (.ireturn, 1) := by decide +kernel
set_option maxRecDepth 20000 in
theorem ggX4_pair_X2_holds : GoodIn wsX4_pair wsX2_holds := goodIn_r _ [6, 7, 26, 27, 28, 29, 30, 31, 32, 33, 34] (by decide +kernel) (by decide +kernel)
set_option maxRecDepth 20000 in
theorem gX4_pair_X2_holds : GoodIn wsX4_pair (wsV RX4 88 RX2 yX2_holds wsX2_holds) := goodIn_app (goodIn_of _ (by decide +kernel)) ggX4_pair_X2_holds
set_option maxRecDepth 20000 in
theorem ggX4_pair_X4_isSide : GoodIn wsX4_pair wsX4_isSide := goodIn_r _ [11] (by decide +kernel) (by decide +kernel)
set_option maxRecDepth 20000 in
theorem gX4_pair_X4_isSide : GoodIn wsX4_pair (va_wsS RX4 48 yX4_isSide wsX4_isSide) := goodIn_app (goodIn_of _ (by decide +kernel)) ggX4_pair_X4_isSide
set_option maxRecDepth 20000 in
theorem ggX4_pair_X2_nameAt : GoodIn wsX4_pair wsX2_nameAt := goodIn_ca (goodIn_r _ [15, 16, 17, 18, 26, 27, 28, 29, 30, 31, 32, 33, 34] (by decide +kernel) (by decide +kernel)) (goodIn_sub (fun _ h => List.mem_cons_of_mem _ (List.mem_append_right _ h)) (by decide +kernel))
set_option maxRecDepth 20000 in
theorem gX4_pair_X2_nameAt : GoodIn wsX4_pair (wsV RX4 91 RX2 yX2_nameAt wsX2_nameAt) := goodIn_app (goodIn_of _ (by decide +kernel)) ggX4_pair_X2_nameAt
theorem dX4_pair_0 : decode cX4_pair 0 = .ok (.aload_n 0, 1) := by decide +kernel
theorem dX4_pair_1 : decode cX4_pair 1 = .ok (.getfield 37, 3) := by decide +kernel
theorem dX4_pair_4 : decode cX4_pair 4 = .ok (.iload_n 1, 1) := by decide +kernel
theorem dX4_pair_5 : decode cX4_pair 5 = .ok (.invokevirtual 88, 3) := by decide +kernel
theorem dX4_pair_8 : decode cX4_pair 8 = .ok (.ifCond .eq 10, 3) := by decide +kernel
theorem dX4_pair_11 : decode cX4_pair 11 = .ok (.iload_n 2, 1) := by decide +kernel
theorem dX4_pair_12 : decode cX4_pair 12 = .ok (.invokestatic 48, 3) := by decide +kernel
theorem dX4_pair_15 : decode cX4_pair 15 = .ok (.ifCond .ne 5, 3) := by decide +kernel
theorem dX4_pair_18 : decode cX4_pair 18 = .ok (.iconst 0, 1) := by decide +kernel
theorem dX4_pair_19 : decode cX4_pair 19 = .ok (.ireturn, 1) := by decide +kernel
theorem dX4_pair_20 : decode cX4_pair 20 = .ok (.aload_n 0, 1) := by decide +kernel
theorem dX4_pair_21 : decode cX4_pair 21 = .ok (.getfield 37, 3) := by decide +kernel
theorem dX4_pair_24 : decode cX4_pair 24 = .ok (.iload_n 1, 1) := by decide +kernel
theorem dX4_pair_25 : decode cX4_pair 25 = .ok (.iload_n 2, 1) := by decide +kernel
theorem dX4_pair_26 : decode cX4_pair 26 = .ok (.invokevirtual 91, 3) := by decide +kernel
theorem dX4_pair_29 : decode cX4_pair 29 = .ok (.ireturn, 1) := by decide +kernel
set_option maxRecDepth 20000 in
theorem ggX4_score_X2_holds : GoodIn wsX4_score wsX2_holds := goodIn_r _ [13, 14, 84, 85, 86, 87, 88, 89, 90, 91, 92] (by decide +kernel) (by decide +kernel)
set_option maxRecDepth 20000 in
theorem gX4_score_X2_holds : GoodIn wsX4_score (wsV RX4 88 RX2 yX2_holds wsX2_holds) := goodIn_app (goodIn_of _ (by decide +kernel)) ggX4_score_X2_holds
set_option maxRecDepth 20000 in
theorem ggX4_score_X2_nameAt : GoodIn wsX4_score wsX2_nameAt := goodIn_ca (goodIn_r _ [18, 19, 20, 21, 84, 85, 86, 87, 88, 89, 90, 91, 92] (by decide +kernel) (by decide +kernel)) (goodIn_sub (fun _ h => List.mem_cons_of_mem _ (List.mem_append_left _ (List.mem_append_right _ h))) (by decide +kernel))
set_option maxRecDepth 20000 in
theorem gX4_score_X2_nameAt : GoodIn wsX4_score (wsV RX4 91 RX2 yX2_nameAt wsX2_nameAt) := goodIn_app (goodIn_of _ (by decide +kernel)) ggX4_score_X2_nameAt
set_option maxRecDepth 20000 in
theorem ggX4_score_X4_find : GoodIn wsX4_score wsX4_find := goodIn_r _ [26, 27, 28, 75, 76, 77, 78, 79, 80, 81] (by decide +kernel) (by decide +kernel)
set_option maxRecDepth 20000 in
theorem gX4_score_X4_find : GoodIn wsX4_score (wsV RX4 55 RX4 yX4_find wsX4_find) := goodIn_app (goodIn_of _ (by decide +kernel)) ggX4_score_X4_find
set_option maxRecDepth 20000 in
theorem ggX4_score_X0_measure : GoodIn wsX4_score wsX0_measure := goodIn_ca (goodIn_r _ [33, 34, 35, 36, 37, 38, 39, 40, 41, 42, 43, 44, 45, 46, 47, 48, 49, 50, 51, 52, 53, 54, 55, 56, 57, 58, 59, 60, 61, 62, 63, 82, 83, 93, 94, 95, 96, 97, 98, 99, 100] (by decide +kernel) (by decide +kernel)) (goodIn_sub (fun _ h => List.mem_cons_of_mem _ (List.mem_append_left _ (List.mem_append_right _ h))) (by decide +kernel))
set_option maxRecDepth 20000 in
theorem gX4_score_X0_measure : GoodIn wsX4_score (wsV RX4 97 RX0 yX0_measure wsX0_measure) := goodIn_app (goodIn_of _ (by decide +kernel)) ggX4_score_X0_measure
set_option maxRecDepth 20000 in
theorem ggX4_score_X0_exists : GoodIn wsX4_score wsX0_exists := goodIn_r _ [67, 35, 82, 83] (by decide +kernel) (by decide +kernel)
set_option maxRecDepth 20000 in
theorem gX4_score_X0_exists : GoodIn wsX4_score (wsV RX4 101 RX0 yX0_exists wsX0_exists) := goodIn_app (goodIn_of _ (by decide +kernel)) ggX4_score_X0_exists
set_option maxRecDepth 20000 in
theorem ggX4_score_X0_reduce : GoodIn wsX4_score wsX0_reduce := goodIn_ca (goodIn_r _ [71, 34, 35, 72, 73, 32, 74, 82, 83] (by decide +kernel) (by decide +kernel)) (goodIn_sub (fun _ h => List.mem_cons_of_mem _ (List.mem_append_right _ h)) (by decide +kernel))
set_option maxRecDepth 20000 in
theorem gX4_score_X0_reduce : GoodIn wsX4_score (wsV RX4 112 RX0 yX0_reduce wsX0_reduce) := goodIn_app (goodIn_of _ (by decide +kernel)) ggX4_score_X0_reduce
theorem dX4_score_0 : decode cX4_score 0 = .ok (.aload_n 0, 1) := by decide +kernel
theorem dX4_score_1 : decode cX4_score 1 = .ok (.getfield 37, 3) := by decide +kernel
theorem dX4_score_4 : decode cX4_score 4 = .ok (.iload_n 1, 1) := by decide +kernel
theorem dX4_score_5 : decode cX4_score 5 = .ok (.invokevirtual 88, 3) := by decide +kernel
theorem dX4_score_8 : decode cX4_score 8 = .ok (.ifCond .ne 7, 3) := by decide +kernel
theorem dX4_score_11 : decode cX4_score 11 = .ok (.ldc2_w 95, 3) := by decide +kernel
theorem dX4_score_14 : decode cX4_score 14 = .ok (.lreturn, 1) := by decide +kernel
theorem dX4_score_15 : decode cX4_score 15 = .ok (.aload_n 0, 1) := by decide +kernel
theorem dX4_score_16 : decode cX4_score 16 = .ok (.aload_n 0, 1) := by decide +kernel
theorem dX4_score_17 : decode cX4_score 17 = .ok (.getfield 37, 3) := by decide +kernel
theorem dX4_score_20 : decode cX4_score 20 = .ok (.iload_n 1, 1) := by decide +kernel
theorem dX4_score_21 : decode cX4_score 21 = .ok (.iconst 0, 1) := by decide +kernel
theorem dX4_score_22 : decode cX4_score 22 = .ok (.invokevirtual 91, 3) := by decide +kernel
theorem dX4_score_25 : decode cX4_score 25 = .ok (.invokevirtual 55, 3) := by decide +kernel
theorem dX4_score_28 : decode cX4_score 28 = .ok (.astore_n 3, 1) := by decide +kernel
theorem dX4_score_29 : decode cX4_score 29 = .ok (.aload_n 0, 1) := by decide +kernel
theorem dX4_score_30 : decode cX4_score 30 = .ok (.aload_n 0, 1) := by decide +kernel
theorem dX4_score_31 : decode cX4_score 31 = .ok (.getfield 37, 3) := by decide +kernel
theorem dX4_score_34 : decode cX4_score 34 = .ok (.iload_n 1, 1) := by decide +kernel
theorem dX4_score_35 : decode cX4_score 35 = .ok (.iconst 1, 1) := by decide +kernel
theorem dX4_score_36 : decode cX4_score 36 = .ok (.invokevirtual 91, 3) := by decide +kernel
theorem dX4_score_39 : decode cX4_score 39 = .ok (.invokevirtual 55, 3) := by decide +kernel
theorem dX4_score_42 : decode cX4_score 42 = .ok (.astore 4, 2) := by decide +kernel
theorem dX4_score_44 : decode cX4_score 44 = .ok (.aload_n 3, 1) := by decide +kernel
theorem dX4_score_45 : decode cX4_score 45 = .ok (.ifnull 8, 3) := by decide +kernel
theorem dX4_score_48 : decode cX4_score 48 = .ok (.aload 4, 2) := by decide +kernel
theorem dX4_score_50 : decode cX4_score 50 = .ok (.ifnonnull 7, 3) := by decide +kernel
theorem dX4_score_53 : decode cX4_score 53 = .ok (.ldc2_w 95, 3) := by decide +kernel
theorem dX4_score_56 : decode cX4_score 56 = .ok (.lreturn, 1) := by decide +kernel
theorem dX4_score_57 : decode cX4_score 57 = .ok (.aload_n 0, 1) := by decide +kernel
theorem dX4_score_58 : decode cX4_score 58 = .ok (.getfield 44, 3) := by decide +kernel
theorem dX4_score_61 : decode cX4_score 61 = .ok (.aload_n 3, 1) := by decide +kernel
theorem dX4_score_62 : decode cX4_score 62 = .ok (.aload 4, 2) := by decide +kernel
theorem dX4_score_64 : decode cX4_score 64 = .ok (.aload_n 0, 1) := by decide +kernel
theorem dX4_score_65 : decode cX4_score 65 = .ok (.getfield 21, 3) := by decide +kernel
theorem dX4_score_68 : decode cX4_score 68 = .ok (.invokevirtual 97, 3) := by decide +kernel
theorem dX4_score_71 : decode cX4_score 71 = .ok (.aload_n 0, 1) := by decide +kernel
theorem dX4_score_72 : decode cX4_score 72 = .ok (.getfield 44, 3) := by decide +kernel
theorem dX4_score_75 : decode cX4_score 75 = .ok (.invokevirtual 101, 3) := by decide +kernel
theorem dX4_score_78 : decode cX4_score 78 = .ok (.ifCond .ne 13, 3) := by decide +kernel
theorem dX4_score_81 : decode cX4_score 81 = .ok (.new 105, 3) := by decide +kernel
theorem dX4_score_84 : decode cX4_score 84 = .ok (.dup, 1) := by decide +kernel
theorem dX4_score_85 : decode cX4_score 85 = .ok (.ldc 107, 2) := by decide +kernel
theorem dX4_score_87 : decode cX4_score 87 = .ok (.invokespecial 109, 3) := by decide +kernel
theorem dX4_score_90 : decode cX4_score 90 = .ok (.athrow, 1) := by decide +kernel
theorem dX4_score_91 : decode cX4_score 91 = .ok (.aload_n 0, 1) := by decide +kernel
theorem dX4_score_92 : decode cX4_score 92 = .ok (.getfield 44, 3) := by decide +kernel
theorem dX4_score_95 : decode cX4_score 95 = .ok (.invokevirtual 112, 3) := by decide +kernel
theorem dX4_score_98 : decode cX4_score 98 = .ok (.iload_n 2, 1) := by decide +kernel
theorem dX4_score_99 : decode cX4_score 99 = .ok (.ifCond .ne 13, 3) := by decide +kernel
theorem dX4_score_102 : decode cX4_score 102 = .ok (.aload_n 0, 1) := by decide +kernel
theorem dX4_score_103 : decode cX4_score 103 = .ok (.getfield 44, 3) := by decide +kernel
theorem dX4_score_106 : decode cX4_score 106 = .ok (.getfield 115, 3) := by decide +kernel
theorem dX4_score_109 : decode cX4_score 109 = .ok (.goto 10, 3) := by decide +kernel
theorem dX4_score_112 : decode cX4_score 112 = .ok (.aload_n 0, 1) := by decide +kernel
theorem dX4_score_113 : decode cX4_score 113 = .ok (.getfield 44, 3) := by decide +kernel
theorem dX4_score_116 : decode cX4_score 116 = .ok (.getfield 119, 3) := by decide +kernel
theorem dX4_score_119 : decode cX4_score 119 = .ok (.lreturn, 1) := by decide +kernel
set_option maxRecDepth 20000 in
theorem ggX4_mutual_X2_holds : GoodIn wsX4_mutual wsX2_holds := goodIn_r _ [6, 7, 28, 29, 30, 31, 32, 33, 34, 35, 36] (by decide +kernel) (by decide +kernel)
set_option maxRecDepth 20000 in
theorem gX4_mutual_X2_holds : GoodIn wsX4_mutual (wsV RX4 88 RX2 yX2_holds wsX2_holds) := goodIn_app (goodIn_of _ (by decide +kernel)) ggX4_mutual_X2_holds
set_option maxRecDepth 20000 in
theorem ggX4_mutual_X2_isBestOfBoth : GoodIn wsX4_mutual wsX2_isBestOfBoth := goodIn_ca (goodIn_r _ [11, 12, 13, 14, 15, 16, 17, 5, 18, 19, 20, 28, 29, 30, 31, 32, 33, 34, 35, 36] (by decide +kernel) (by decide +kernel)) (goodIn_sub (fun _ h => List.mem_cons_of_mem _ (List.mem_append_right _ h)) (by decide +kernel))
set_option maxRecDepth 20000 in
theorem gX4_mutual_X2_isBestOfBoth : GoodIn wsX4_mutual (wsV RX4 122 RX2 yX2_isBestOfBoth wsX2_isBestOfBoth) := goodIn_app (goodIn_of _ (by decide +kernel)) ggX4_mutual_X2_isBestOfBoth
theorem dX4_mutual_0 : decode cX4_mutual 0 = .ok (.aload_n 0, 1) := by decide +kernel
theorem dX4_mutual_1 : decode cX4_mutual 1 = .ok (.getfield 37, 3) := by decide +kernel
theorem dX4_mutual_4 : decode cX4_mutual 4 = .ok (.iload_n 1, 1) := by decide +kernel
theorem dX4_mutual_5 : decode cX4_mutual 5 = .ok (.invokevirtual 88, 3) := by decide +kernel
theorem dX4_mutual_8 : decode cX4_mutual 8 = .ok (.ifCond .ne 5, 3) := by decide +kernel
theorem dX4_mutual_11 : decode cX4_mutual 11 = .ok (.iconst (-1), 1) := by decide +kernel
theorem dX4_mutual_12 : decode cX4_mutual 12 = .ok (.ireturn, 1) := by decide +kernel
theorem dX4_mutual_13 : decode cX4_mutual 13 = .ok (.aload_n 0, 1) := by decide +kernel
theorem dX4_mutual_14 : decode cX4_mutual 14 = .ok (.getfield 37, 3) := by decide +kernel
theorem dX4_mutual_17 : decode cX4_mutual 17 = .ok (.iload_n 1, 1) := by decide +kernel
theorem dX4_mutual_18 : decode cX4_mutual 18 = .ok (.invokevirtual 122, 3) := by decide +kernel
theorem dX4_mutual_21 : decode cX4_mutual 21 = .ok (.ifCond .eq 7, 3) := by decide +kernel
theorem dX4_mutual_24 : decode cX4_mutual 24 = .ok (.iconst 1, 1) := by decide +kernel
theorem dX4_mutual_25 : decode cX4_mutual 25 = .ok (.goto 4, 3) := by decide +kernel
theorem dX4_mutual_28 : decode cX4_mutual 28 = .ok (.iconst 0, 1) := by decide +kernel
theorem dX4_mutual_29 : decode cX4_mutual 29 = .ok (.ireturn, 1) := by decide +kernel
set_option maxRecDepth 20000 in
theorem ggX4_join_X4_find : GoodIn wsX4_join wsX4_find := goodIn_r _ [11, 12, 13, 30, 31, 32, 33, 34, 35, 36] (by decide +kernel) (by decide +kernel)
set_option maxRecDepth 20000 in
theorem gX4_join_X4_find : GoodIn wsX4_join (wsV RX4 55 RX4 yX4_find wsX4_find) := goodIn_app (goodIn_of _ (by decide +kernel)) ggX4_join_X4_find
set_option maxRecDepth 20000 in
theorem ggX4_join_X3_mayJoin : GoodIn wsX4_join wsX3_mayJoin := goodIn_r _ [18, 19, 20, 40, 41, 42, 43, 44, 45, 46, 47] (by decide +kernel) (by decide +kernel)
set_option maxRecDepth 20000 in
theorem gX4_join_X3_mayJoin : GoodIn wsX4_join (wsV RX4 125 RX3 yX3_mayJoin wsX3_mayJoin) := goodIn_app (goodIn_of _ (by decide +kernel)) ggX4_join_X3_mayJoin
set_option maxRecDepth 20000 in
theorem ggX4_join_X1_init : GoodIn wsX4_join wsX1_init := goodIn_r _ [23, 24, 25, 26, 27, 28, 29, 37, 38, 39] (by decide +kernel) (by decide +kernel)
set_option maxRecDepth 20000 in
theorem gX4_join_X1_init : GoodIn wsX4_join (wsX1_init) := ggX4_join_X1_init
theorem dX4_join_0 : decode cX4_join 0 = .ok (.aload_n 0, 1) := by decide +kernel
theorem dX4_join_1 : decode cX4_join 1 = .ok (.iload_n 1, 1) := by decide +kernel
theorem dX4_join_2 : decode cX4_join 2 = .ok (.invokevirtual 55, 3) := by decide +kernel
theorem dX4_join_5 : decode cX4_join 5 = .ok (.astore_n 3, 1) := by decide +kernel
theorem dX4_join_6 : decode cX4_join 6 = .ok (.aload_n 0, 1) := by decide +kernel
theorem dX4_join_7 : decode cX4_join 7 = .ok (.iload_n 2, 1) := by decide +kernel
theorem dX4_join_8 : decode cX4_join 8 = .ok (.invokevirtual 55, 3) := by decide +kernel
theorem dX4_join_11 : decode cX4_join 11 = .ok (.astore 4, 2) := by decide +kernel
theorem dX4_join_13 : decode cX4_join 13 = .ok (.aload_n 3, 1) := by decide +kernel
theorem dX4_join_14 : decode cX4_join 14 = .ok (.ifnull 17, 3) := by decide +kernel
theorem dX4_join_17 : decode cX4_join 17 = .ok (.aload 4, 2) := by decide +kernel
theorem dX4_join_19 : decode cX4_join 19 = .ok (.ifnull 12, 3) := by decide +kernel
theorem dX4_join_22 : decode cX4_join 22 = .ok (.aload_n 0, 1) := by decide +kernel
theorem dX4_join_23 : decode cX4_join 23 = .ok (.getfield 31, 3) := by decide +kernel
theorem dX4_join_26 : decode cX4_join 26 = .ok (.bipush 100, 2) := by decide +kernel
theorem dX4_join_28 : decode cX4_join 28 = .ok (.if_icmp .lt 5, 3) := by decide +kernel
theorem dX4_join_31 : decode cX4_join 31 = .ok (.iconst 0, 1) := by decide +kernel
theorem dX4_join_32 : decode cX4_join 32 = .ok (.ireturn, 1) := by decide +kernel
theorem dX4_join_33 : decode cX4_join 33 = .ok (.aload_n 3, 1) := by decide +kernel
theorem dX4_join_34 : decode cX4_join 34 = .ok (.iconst 0, 1) := by decide +kernel
theorem dX4_join_35 : decode cX4_join 35 = .ok (.invokevirtual 125, 3) := by decide +kernel
theorem dX4_join_38 : decode cX4_join 38 = .ok (.ifCond .eq 12, 3) := by decide +kernel
theorem dX4_join_41 : decode cX4_join 41 = .ok (.aload 4, 2) := by decide +kernel
theorem dX4_join_43 : decode cX4_join 43 = .ok (.iconst 1, 1) := by decide +kernel
theorem dX4_join_44 : decode cX4_join 44 = .ok (.invokevirtual 125, 3) := by decide +kernel
theorem dX4_join_47 : decode cX4_join 47 = .ok (.ifCond .ne 5, 3) := by decide +kernel
theorem dX4_join_50 : decode cX4_join 50 = .ok (.iconst 0, 1) := by decide +kernel
theorem dX4_join_51 : decode cX4_join 51 = .ok (.ireturn, 1) := by decide +kernel
theorem dX4_join_52 : decode cX4_join 52 = .ok (.aload_n 0, 1) := by decide +kernel
theorem dX4_join_53 : decode cX4_join 53 = .ok (.getfield 27, 3) := by decide +kernel
theorem dX4_join_56 : decode cX4_join 56 = .ok (.aload_n 0, 1) := by decide +kernel
theorem dX4_join_57 : decode cX4_join 57 = .ok (.getfield 31, 3) := by decide +kernel
theorem dX4_join_60 : decode cX4_join 60 = .ok (.new 25, 3) := by decide +kernel
theorem dX4_join_63 : decode cX4_join 63 = .ok (.dup, 1) := by decide +kernel
theorem dX4_join_64 : decode cX4_join 64 = .ok (.aload_n 3, 1) := by decide +kernel
theorem dX4_join_65 : decode cX4_join 65 = .ok (.aload 4, 2) := by decide +kernel
theorem dX4_join_67 : decode cX4_join 67 = .ok (.invokespecial 128, 3) := by decide +kernel
theorem dX4_join_70 : decode cX4_join 70 = .ok (.aastore, 1) := by decide +kernel
theorem dX4_join_71 : decode cX4_join 71 = .ok (.aload_n 0, 1) := by decide +kernel
theorem dX4_join_72 : decode cX4_join 72 = .ok (.dup, 1) := by decide +kernel
theorem dX4_join_73 : decode cX4_join 73 = .ok (.getfield 31, 3) := by decide +kernel
theorem dX4_join_76 : decode cX4_join 76 = .ok (.iconst 1, 1) := by decide +kernel
theorem dX4_join_77 : decode cX4_join 77 = .ok (.iadd, 1) := by decide +kernel
theorem dX4_join_78 : decode cX4_join 78 = .ok (.putfield 31, 3) := by decide +kernel
theorem dX4_join_81 : decode cX4_join 81 = .ok (.aload_n 3, 1) := by decide +kernel
theorem dX4_join_82 : decode cX4_join 82 = .ok (.iconst 1, 1) := by decide +kernel
theorem dX4_join_83 : decode cX4_join 83 = .ok (.putfield 131, 3) := by decide +kernel
theorem dX4_join_86 : decode cX4_join 86 = .ok (.aload 4, 2) := by decide +kernel
theorem dX4_join_88 : decode cX4_join 88 = .ok (.iconst 1, 1) := by decide +kernel
theorem dX4_join_89 : decode cX4_join 89 = .ok (.putfield 131, 3) := by decide +kernel
theorem dX4_join_92 : decode cX4_join 92 = .ok (.aload_n 0, 1) := by decide +kernel
theorem dX4_join_93 : decode cX4_join 93 = .ok (.getfield 31, 3) := by decide +kernel
theorem dX4_join_96 : decode cX4_join 96 = .ok (.ireturn, 1) := by decide +kernel
set_option maxRecDepth 20000 in
theorem ggX4_undo_X1_takeBack : GoodIn wsX4_undo wsX1_takeBack := goodIn_r _ [8, 9, 10, 11, 12, 20, 21, 22, 23, 24, 25, 26, 27, 28, 29, 30] (by decide +kernel) (by decide +kernel)
set_option maxRecDepth 20000 in
theorem gX4_undo_X1_takeBack : GoodIn wsX4_undo (wsV RX4 138 RX1 yX1_takeBack wsX1_takeBack) := goodIn_app (goodIn_of _ (by decide +kernel)) ggX4_undo_X1_takeBack
theorem dX4_undo_0 : decode cX4_undo 0 = .ok (.iload_n 1, 1) := by decide +kernel
theorem dX4_undo_1 : decode cX4_undo 1 = .ok (.iconst 1, 1) := by decide +kernel
theorem dX4_undo_2 : decode cX4_undo 2 = .ok (.if_icmp .lt 11, 3) := by decide +kernel
theorem dX4_undo_5 : decode cX4_undo 5 = .ok (.iload_n 1, 1) := by decide +kernel
theorem dX4_undo_6 : decode cX4_undo 6 = .ok (.aload_n 0, 1) := by decide +kernel
theorem dX4_undo_7 : decode cX4_undo 7 = .ok (.getfield 31, 3) := by decide +kernel
theorem dX4_undo_10 : decode cX4_undo 10 = .ok (.if_icmp .le 5, 3) := by decide +kernel
theorem dX4_undo_13 : decode cX4_undo 13 = .ok (.iconst 0, 1) := by decide +kernel
theorem dX4_undo_14 : decode cX4_undo 14 = .ok (.ireturn, 1) := by decide +kernel
theorem dX4_undo_15 : decode cX4_undo 15 = .ok (.aload_n 0, 1) := by decide +kernel
theorem dX4_undo_16 : decode cX4_undo 16 = .ok (.getfield 27, 3) := by decide +kernel
theorem dX4_undo_19 : decode cX4_undo 19 = .ok (.iload_n 1, 1) := by decide +kernel
theorem dX4_undo_20 : decode cX4_undo 20 = .ok (.iconst 1, 1) := by decide +kernel
theorem dX4_undo_21 : decode cX4_undo 21 = .ok (.isub, 1) := by decide +kernel
theorem dX4_undo_22 : decode cX4_undo 22 = .ok (.aaload, 1) := by decide +kernel
theorem dX4_undo_23 : decode cX4_undo 23 = .ok (.astore_n 2, 1) := by decide +kernel
theorem dX4_undo_24 : decode cX4_undo 24 = .ok (.aload_n 2, 1) := by decide +kernel
theorem dX4_undo_25 : decode cX4_undo 25 = .ok (.ifnull 10, 3) := by decide +kernel
theorem dX4_undo_28 : decode cX4_undo 28 = .ok (.aload_n 2, 1) := by decide +kernel
theorem dX4_undo_29 : decode cX4_undo 29 = .ok (.getfield 135, 3) := by decide +kernel
theorem dX4_undo_32 : decode cX4_undo 32 = .ok (.ifCond .eq 5, 3) := by decide +kernel
theorem dX4_undo_35 : decode cX4_undo 35 = .ok (.iconst 0, 1) := by decide +kernel
theorem dX4_undo_36 : decode cX4_undo 36 = .ok (.ireturn, 1) := by decide +kernel
theorem dX4_undo_37 : decode cX4_undo 37 = .ok (.aload_n 2, 1) := by decide +kernel
theorem dX4_undo_38 : decode cX4_undo 38 = .ok (.invokevirtual 138, 3) := by decide +kernel
theorem dX4_undo_41 : decode cX4_undo 41 = .ok (.iconst 1, 1) := by decide +kernel
theorem dX4_undo_42 : decode cX4_undo 42 = .ok (.ireturn, 1) := by decide +kernel
set_option maxRecDepth 20000 in
theorem ggX4_sample_X2_holds : GoodIn wsX4_sample wsX2_holds := goodIn_r _ [6, 7, 22, 23, 24, 25, 26, 27, 28, 29, 30] (by decide +kernel) (by decide +kernel)
set_option maxRecDepth 20000 in
theorem gX4_sample_X2_holds : GoodIn wsX4_sample (wsV RX4 88 RX2 yX2_holds wsX2_holds) := goodIn_app (goodIn_of _ (by decide +kernel)) ggX4_sample_X2_holds
set_option maxRecDepth 20000 in
theorem ggX4_sample_X2_placeAfterMixing : GoodIn wsX4_sample wsX2_placeAfterMixing := goodIn_ca (goodIn_ca (goodIn_r _ [11, 7, 12, 13, 14, 22, 23, 24, 25, 26, 27, 28, 29, 30] (by decide +kernel) (by decide +kernel)) (goodIn_sub (fun _ h => List.mem_cons_of_mem _ (List.mem_append_left _ (List.mem_append_right _ h))) (by decide +kernel))) (goodIn_sub (fun _ h => List.mem_cons_of_mem _ (List.mem_append_right _ h)) (by decide +kernel))
set_option maxRecDepth 20000 in
theorem gX4_sample_X2_placeAfterMixing : GoodIn wsX4_sample (wsV RX4 141 RX2 yX2_placeAfterMixing wsX2_placeAfterMixing) := goodIn_app (goodIn_of _ (by decide +kernel)) ggX4_sample_X2_placeAfterMixing
theorem dX4_sample_0 : decode cX4_sample 0 = .ok (.aload_n 0, 1) := by decide +kernel
theorem dX4_sample_1 : decode cX4_sample 1 = .ok (.getfield 37, 3) := by decide +kernel
theorem dX4_sample_4 : decode cX4_sample 4 = .ok (.iload_n 3, 1) := by decide +kernel
theorem dX4_sample_5 : decode cX4_sample 5 = .ok (.invokevirtual 88, 3) := by decide +kernel
theorem dX4_sample_8 : decode cX4_sample 8 = .ok (.ifCond .ne 5, 3) := by decide +kernel
theorem dX4_sample_11 : decode cX4_sample 11 = .ok (.iconst (-1), 1) := by decide +kernel
theorem dX4_sample_12 : decode cX4_sample 12 = .ok (.ireturn, 1) := by decide +kernel
theorem dX4_sample_13 : decode cX4_sample 13 = .ok (.aload_n 0, 1) := by decide +kernel
theorem dX4_sample_14 : decode cX4_sample 14 = .ok (.getfield 37, 3) := by decide +kernel
theorem dX4_sample_17 : decode cX4_sample 17 = .ok (.lload_n 1, 1) := by decide +kernel
theorem dX4_sample_18 : decode cX4_sample 18 = .ok (.iload_n 3, 1) := by decide +kernel
theorem dX4_sample_19 : decode cX4_sample 19 = .ok (.invokevirtual 141, 3) := by decide +kernel
theorem dX4_sample_22 : decode cX4_sample 22 = .ok (.ireturn, 1) := by decide +kernel
set_option maxRecDepth 20000 in
theorem ggX4_none_X4_find : GoodIn wsX4_none wsX4_find := goodIn_r _ [9, 3, 10, 17, 18, 19, 20, 21, 22, 23] (by decide +kernel) (by decide +kernel)
set_option maxRecDepth 20000 in
theorem gX4_none_X4_find : GoodIn wsX4_none (wsV RX4 55 RX4 yX4_find wsX4_find) := goodIn_app (goodIn_of _ (by decide +kernel)) ggX4_none_X4_find
set_option maxRecDepth 20000 in
theorem ggX4_none_X2_hasName : GoodIn wsX4_none wsX2_hasName := goodIn_ca (goodIn_r _ [15, 16, 24, 25, 26, 27, 28, 29, 30, 31, 32] (by decide +kernel) (by decide +kernel)) (goodIn_sub (fun _ h => List.mem_cons_of_mem _ (List.mem_append_right _ h)) (by decide +kernel))
set_option maxRecDepth 20000 in
theorem gX4_none_X2_hasName : GoodIn wsX4_none (wsV RX4 151 RX2 yX2_hasName wsX2_hasName) := goodIn_app (goodIn_of _ (by decide +kernel)) ggX4_none_X2_hasName
theorem dX4_none_0 : decode cX4_none 0 = .ok (.iload_n 1, 1) := by decide +kernel
theorem dX4_none_1 : decode cX4_none 1 = .ok (.ifCond .lt 13, 3) := by decide +kernel
theorem dX4_none_4 : decode cX4_none 4 = .ok (.aload_n 0, 1) := by decide +kernel
theorem dX4_none_5 : decode cX4_none 5 = .ok (.getfield 37, 3) := by decide +kernel
theorem dX4_none_8 : decode cX4_none 8 = .ok (.getfield 145, 3) := by decide +kernel
theorem dX4_none_11 : decode cX4_none 11 = .ok (.ifCond .ne 5, 3) := by decide +kernel
theorem dX4_none_14 : decode cX4_none 14 = .ok (.iconst 0, 1) := by decide +kernel
theorem dX4_none_15 : decode cX4_none 15 = .ok (.ireturn, 1) := by decide +kernel
theorem dX4_none_16 : decode cX4_none 16 = .ok (.iconst 0, 1) := by decide +kernel
theorem dX4_none_17 : decode cX4_none 17 = .ok (.istore_n 2, 1) := by decide +kernel
theorem dX4_none_18 : decode cX4_none 18 = .ok (.iconst 1, 1) := by decide +kernel
theorem dX4_none_19 : decode cX4_none 19 = .ok (.istore_n 3, 1) := by decide +kernel
theorem dX4_none_20 : decode cX4_none 20 = .ok (.iload_n 3, 1) := by decide +kernel
theorem dX4_none_21 : decode cX4_none 21 = .ok (.aload_n 0, 1) := by decide +kernel
theorem dX4_none_22 : decode cX4_none 22 = .ok (.getfield 15, 3) := by decide +kernel
theorem dX4_none_25 : decode cX4_none 25 = .ok (.if_icmp .gt 50, 3) := by decide +kernel
theorem dX4_none_28 : decode cX4_none 28 = .ok (.aload_n 0, 1) := by decide +kernel
theorem dX4_none_29 : decode cX4_none 29 = .ok (.iload_n 3, 1) := by decide +kernel
theorem dX4_none_30 : decode cX4_none 30 = .ok (.invokevirtual 55, 3) := by decide +kernel
theorem dX4_none_33 : decode cX4_none 33 = .ok (.astore 4, 2) := by decide +kernel
theorem dX4_none_35 : decode cX4_none 35 = .ok (.aload 4, 2) := by decide +kernel
theorem dX4_none_37 : decode cX4_none 37 = .ok (.ifnull 32, 3) := by decide +kernel
theorem dX4_none_40 : decode cX4_none 40 = .ok (.aload 4, 2) := by decide +kernel
theorem dX4_none_42 : decode cX4_none 42 = .ok (.getfield 148, 3) := by decide +kernel
theorem dX4_none_45 : decode cX4_none 45 = .ok (.ifCond .ne 24, 3) := by decide +kernel
theorem dX4_none_48 : decode cX4_none 48 = .ok (.aload_n 0, 1) := by decide +kernel
theorem dX4_none_49 : decode cX4_none 49 = .ok (.getfield 37, 3) := by decide +kernel
theorem dX4_none_52 : decode cX4_none 52 = .ok (.iload_n 3, 1) := by decide +kernel
theorem dX4_none_53 : decode cX4_none 53 = .ok (.invokevirtual 151, 3) := by decide +kernel
theorem dX4_none_56 : decode cX4_none 56 = .ok (.ifCond .ne 13, 3) := by decide +kernel
theorem dX4_none_59 : decode cX4_none 59 = .ok (.iload_n 2, 1) := by decide +kernel
theorem dX4_none_60 : decode cX4_none 60 = .ok (.iload_n 1, 1) := by decide +kernel
theorem dX4_none_61 : decode cX4_none 61 = .ok (.if_icmp .ne 5, 3) := by decide +kernel
theorem dX4_none_64 : decode cX4_none 64 = .ok (.iload_n 3, 1) := by decide +kernel
theorem dX4_none_65 : decode cX4_none 65 = .ok (.ireturn, 1) := by decide +kernel
theorem dX4_none_66 : decode cX4_none 66 = .ok (.iinc 2 1, 3) := by decide +kernel
theorem dX4_none_69 : decode cX4_none 69 = .ok (.iinc 3 1, 3) := by decide +kernel
theorem dX4_none_72 : decode cX4_none 72 = .ok (.goto (-52), 3) := by decide +kernel
theorem dX4_none_75 : decode cX4_none 75 = .ok (.iconst 0, 1) := by decide +kernel
theorem dX4_none_76 : decode cX4_none 76 = .ok (.ireturn, 1) := by decide +kernel
set_option maxRecDepth 20000 in
theorem ggX4_index_X2_holds : GoodIn wsX4_index wsX2_holds := goodIn_r _ [9, 10, 31, 32, 33, 34, 35, 36, 37, 38, 39] (by decide +kernel) (by decide +kernel)
set_option maxRecDepth 20000 in
theorem gX4_index_X2_holds : GoodIn wsX4_index (wsV RX4 88 RX2 yX2_holds wsX2_holds) := goodIn_app (goodIn_of _ (by decide +kernel)) ggX4_index_X2_holds
set_option maxRecDepth 20000 in
theorem ggX4_index_X2_nameAt : GoodIn wsX4_index wsX2_nameAt := goodIn_ca (goodIn_r _ [14, 15, 16, 17, 31, 32, 33, 34, 35, 36, 37, 38, 39] (by decide +kernel) (by decide +kernel)) (goodIn_sub (fun _ h => List.mem_cons_of_mem _ (List.mem_append_right _ h)) (by decide +kernel))
set_option maxRecDepth 20000 in
theorem gX4_index_X2_nameAt : GoodIn wsX4_index (wsV RX4 91 RX2 yX2_nameAt wsX2_nameAt) := goodIn_app (goodIn_of _ (by decide +kernel)) ggX4_index_X2_nameAt
theorem dX4_index_0 : decode cX4_index 0 = .ok (.aload_n 0, 1) := by decide +kernel
theorem dX4_index_1 : decode cX4_index 1 = .ok (.getfield 37, 3) := by decide +kernel
theorem dX4_index_4 : decode cX4_index 4 = .ok (.iload_n 1, 1) := by decide +kernel
theorem dX4_index_5 : decode cX4_index 5 = .ok (.invokevirtual 88, 3) := by decide +kernel
theorem dX4_index_8 : decode cX4_index 8 = .ok (.ifCond .ne 13, 3) := by decide +kernel
theorem dX4_index_11 : decode cX4_index 11 = .ok (.new 154, 3) := by decide +kernel
theorem dX4_index_14 : decode cX4_index 14 = .ok (.dup, 1) := by decide +kernel
theorem dX4_index_15 : decode cX4_index 15 = .ok (.ldc 156, 2) := by decide +kernel
theorem dX4_index_17 : decode cX4_index 17 = .ok (.invokespecial 158, 3) := by decide +kernel
theorem dX4_index_20 : decode cX4_index 20 = .ok (.athrow, 1) := by decide +kernel
theorem dX4_index_21 : decode cX4_index 21 = .ok (.aload_n 0, 1) := by decide +kernel
theorem dX4_index_22 : decode cX4_index 22 = .ok (.getfield 37, 3) := by decide +kernel
theorem dX4_index_25 : decode cX4_index 25 = .ok (.iload_n 1, 1) := by decide +kernel
theorem dX4_index_26 : decode cX4_index 26 = .ok (.iload_n 2, 1) := by decide +kernel
theorem dX4_index_27 : decode cX4_index 27 = .ok (.invokevirtual 91, 3) := by decide +kernel
theorem dX4_index_30 : decode cX4_index 30 = .ok (.ireturn, 1) := by decide +kernel
set_option maxRecDepth 20000 in
theorem ggX4_best_X4_isSide : GoodIn wsX4_best wsX4_isSide := goodIn_r _ [5] (by decide +kernel) (by decide +kernel)
set_option maxRecDepth 20000 in
theorem gX4_best_X4_isSide : GoodIn wsX4_best (va_wsS RX4 48 yX4_isSide wsX4_isSide) := goodIn_app (goodIn_of _ (by decide +kernel)) ggX4_best_X4_isSide
set_option maxRecDepth 20000 in
theorem ggX4_best_X2_partner : GoodIn wsX4_best wsX2_partner := goodIn_ca (goodIn_r _ [10, 11, 12, 13, 14, 9, 15, 16, 17, 18, 26, 27, 28, 29, 30, 31, 32, 33, 34] (by decide +kernel) (by decide +kernel)) (goodIn_sub (fun _ h => List.mem_cons_of_mem _ (List.mem_append_right _ h)) (by decide +kernel))
set_option maxRecDepth 20000 in
theorem gX4_best_X2_partner : GoodIn wsX4_best (wsV RX4 159 RX2 yX2_partner wsX2_partner) := goodIn_app (goodIn_of _ (by decide +kernel)) ggX4_best_X2_partner
theorem dX4_best_0 : decode cX4_best 0 = .ok (.iload_n 1, 1) := by decide +kernel
theorem dX4_best_1 : decode cX4_best 1 = .ok (.invokestatic 48, 3) := by decide +kernel
theorem dX4_best_4 : decode cX4_best 4 = .ok (.ifCond .eq 7, 3) := by decide +kernel
theorem dX4_best_7 : decode cX4_best 7 = .ok (.iload_n 3, 1) := by decide +kernel
theorem dX4_best_8 : decode cX4_best 8 = .ok (.ifCond .ge 5, 3) := by decide +kernel
theorem dX4_best_11 : decode cX4_best 11 = .ok (.iconst 0, 1) := by decide +kernel
theorem dX4_best_12 : decode cX4_best 12 = .ok (.ireturn, 1) := by decide +kernel
theorem dX4_best_13 : decode cX4_best 13 = .ok (.aload_n 0, 1) := by decide +kernel
theorem dX4_best_14 : decode cX4_best 14 = .ok (.getfield 37, 3) := by decide +kernel
theorem dX4_best_17 : decode cX4_best 17 = .ok (.iload_n 1, 1) := by decide +kernel
theorem dX4_best_18 : decode cX4_best 18 = .ok (.iload_n 2, 1) := by decide +kernel
theorem dX4_best_19 : decode cX4_best 19 = .ok (.iload_n 3, 1) := by decide +kernel
theorem dX4_best_20 : decode cX4_best 20 = .ok (.invokevirtual 159, 3) := by decide +kernel
theorem dX4_best_23 : decode cX4_best 23 = .ok (.ireturn, 1) := by decide +kernel
theorem dX4_isSide_0 : decode cX4_isSide 0 = .ok (.iload_n 0, 1) := by decide +kernel
theorem dX4_isSide_1 : decode cX4_isSide 1 = .ok (.ifCond .eq 8, 3) := by decide +kernel
theorem dX4_isSide_4 : decode cX4_isSide 4 = .ok (.iload_n 0, 1) := by decide +kernel
theorem dX4_isSide_5 : decode cX4_isSide 5 = .ok (.iconst 1, 1) := by decide +kernel
theorem dX4_isSide_6 : decode cX4_isSide 6 = .ok (.if_icmp .ne 7, 3) := by decide +kernel
theorem dX4_isSide_9 : decode cX4_isSide 9 = .ok (.iconst 1, 1) := by decide +kernel
theorem dX4_isSide_10 : decode cX4_isSide 10 = .ok (.goto 4, 3) := by decide +kernel
theorem dX4_isSide_13 : decode cX4_isSide 13 = .ok (.iconst 0, 1) := by decide +kernel
theorem dX4_isSide_14 : decode cX4_isSide 14 = .ok (.ireturn, 1) := by decide +kernel
theorem dX4_find_0 : decode cX4_find 0 = .ok (.iload_n 1, 1) := by decide +kernel
theorem dX4_find_1 : decode cX4_find 1 = .ok (.iconst 1, 1) := by decide +kernel
theorem dX4_find_2 : decode cX4_find 2 = .ok (.if_icmp .lt 11, 3) := by decide +kernel
theorem dX4_find_5 : decode cX4_find 5 = .ok (.iload_n 1, 1) := by decide +kernel
theorem dX4_find_6 : decode cX4_find 6 = .ok (.aload_n 0, 1) := by decide +kernel
theorem dX4_find_7 : decode cX4_find 7 = .ok (.getfield 15, 3) := by decide +kernel
theorem dX4_find_10 : decode cX4_find 10 = .ok (.if_icmp .le 5, 3) := by decide +kernel
theorem dX4_find_13 : decode cX4_find 13 = .ok (.aconst_null, 1) := by decide +kernel
theorem dX4_find_14 : decode cX4_find 14 = .ok (.areturn, 1) := by decide +kernel
theorem dX4_find_15 : decode cX4_find 15 = .ok (.aload_n 0, 1) := by decide +kernel
theorem dX4_find_16 : decode cX4_find 16 = .ok (.getfield 11, 3) := by decide +kernel
theorem dX4_find_19 : decode cX4_find 19 = .ok (.iload_n 1, 1) := by decide +kernel
theorem dX4_find_20 : decode cX4_find 20 = .ok (.iconst 1, 1) := by decide +kernel
theorem dX4_find_21 : decode cX4_find 21 = .ok (.isub, 1) := by decide +kernel
theorem dX4_find_22 : decode cX4_find 22 = .ok (.aaload, 1) := by decide +kernel
theorem dX4_find_23 : decode cX4_find 23 = .ok (.areturn, 1) := by decide +kernel
set_option maxRecDepth 20000 in
theorem ggX4_listPairsOf_X4_find : GoodIn wsX4_listPairsOf wsX4_find := goodIn_r _ [9, 1, 10, 75, 76, 77, 78, 79, 80, 81] (by decide +kernel) (by decide +kernel)
set_option maxRecDepth 20000 in
theorem gX4_listPairsOf_X4_find : GoodIn wsX4_listPairsOf (wsV RX4 55 RX4 yX4_find wsX4_find) := goodIn_app (goodIn_of _ (by decide +kernel)) ggX4_listPairsOf_X4_find
set_option maxRecDepth 20000 in
theorem ggX4_listPairsOf_X3_mayPair : GoodIn wsX4_listPairsOf wsX3_mayPair := goodIn_r _ [15, 16, 17, 18, 82, 83, 84, 85, 86, 87, 88, 89] (by decide +kernel) (by decide +kernel)
set_option maxRecDepth 20000 in
theorem gX4_listPairsOf_X3_mayPair : GoodIn wsX4_listPairsOf (wsV RX4 74 RX3 yX3_mayPair wsX3_mayPair) := goodIn_app (goodIn_of _ (by decide +kernel)) ggX4_listPairsOf_X3_mayPair
set_option maxRecDepth 20000 in
theorem ggX4_listPairsOf_X0_measure : GoodIn wsX4_listPairsOf wsX0_measure := goodIn_ca (goodIn_r _ [23, 24, 25, 26, 27, 28, 14, 29, 17, 30, 31, 32, 33, 34, 35, 36, 37, 38, 39, 40, 41, 42, 43, 44, 45, 46, 47, 48, 49, 50, 51, 90, 91, 82, 83, 84, 85, 86, 87, 88, 89] (by decide +kernel) (by decide +kernel)) (goodIn_sub (fun _ h => List.mem_cons_of_mem _ (List.mem_append_right _ h)) (by decide +kernel))
set_option maxRecDepth 20000 in
theorem gX4_listPairsOf_X0_measure : GoodIn wsX4_listPairsOf (wsV RX4 97 RX0 yX0_measure wsX0_measure) := goodIn_app (goodIn_of _ (by decide +kernel)) ggX4_listPairsOf_X0_measure
set_option maxRecDepth 20000 in
theorem ggX4_listPairsOf_X0_exists : GoodIn wsX4_listPairsOf wsX0_exists := goodIn_r _ [55, 25, 90, 91] (by decide +kernel) (by decide +kernel)
set_option maxRecDepth 20000 in
theorem gX4_listPairsOf_X0_exists : GoodIn wsX4_listPairsOf (wsV RX4 101 RX0 yX0_exists wsX0_exists) := goodIn_app (goodIn_of _ (by decide +kernel)) ggX4_listPairsOf_X0_exists
set_option maxRecDepth 20000 in
theorem ggX4_listPairsOf_X0_isHalfAtLeast : GoodIn wsX4_listPairsOf wsX0_isHalfAtLeast := goodIn_r _ [59, 60, 24, 25, 90, 91] (by decide +kernel) (by decide +kernel)
set_option maxRecDepth 20000 in
theorem gX4_listPairsOf_X0_isHalfAtLeast : GoodIn wsX4_listPairsOf (wsV RX4 163 RX0 yX0_isHalfAtLeast wsX0_isHalfAtLeast) := goodIn_app (goodIn_of _ (by decide +kernel)) ggX4_listPairsOf_X0_isHalfAtLeast
set_option maxRecDepth 20000 in
theorem ggX4_listPairsOf_X2_add : GoodIn wsX4_listPairsOf wsX2_add := goodIn_ca (goodIn_r _ [65, 66, 67, 68, 69, 70, 71, 72, 73, 74, 92, 93, 94, 95, 96, 97, 98, 99, 100, 90, 91] (by decide +kernel) (by decide +kernel)) (goodIn_sub (fun _ h => List.mem_cons_of_mem _ (List.mem_append_right _ h)) (by decide +kernel))
set_option maxRecDepth 20000 in
theorem gX4_listPairsOf_X2_add : GoodIn wsX4_listPairsOf (wsV RX4 166 RX2 yX2_add wsX2_add) := goodIn_app (goodIn_of _ (by decide +kernel)) ggX4_listPairsOf_X2_add
theorem dX4_listPairsOf_0 : decode cX4_listPairsOf 0 = .ok (.iconst 1, 1) := by decide +kernel
theorem dX4_listPairsOf_1 : decode cX4_listPairsOf 1 = .ok (.istore_n 3, 1) := by decide +kernel
theorem dX4_listPairsOf_2 : decode cX4_listPairsOf 2 = .ok (.iload_n 3, 1) := by decide +kernel
theorem dX4_listPairsOf_3 : decode cX4_listPairsOf 3 = .ok (.aload_n 0, 1) := by decide +kernel
theorem dX4_listPairsOf_4 : decode cX4_listPairsOf 4 = .ok (.getfield 15, 3) := by decide +kernel
theorem dX4_listPairsOf_7 : decode cX4_listPairsOf 7 = .ok (.if_icmp .gt 77, 3) := by decide +kernel
theorem dX4_listPairsOf_10 : decode cX4_listPairsOf 10 = .ok (.aload_n 0, 1) := by decide +kernel
theorem dX4_listPairsOf_11 : decode cX4_listPairsOf 11 = .ok (.iload_n 3, 1) := by decide +kernel
theorem dX4_listPairsOf_12 : decode cX4_listPairsOf 12 = .ok (.invokevirtual 55, 3) := by decide +kernel
theorem dX4_listPairsOf_15 : decode cX4_listPairsOf 15 = .ok (.astore 4, 2) := by decide +kernel
theorem dX4_listPairsOf_17 : decode cX4_listPairsOf 17 = .ok (.aload 4, 2) := by decide +kernel
theorem dX4_listPairsOf_19 : decode cX4_listPairsOf 19 = .ok (.ifnull 59, 3) := by decide +kernel
theorem dX4_listPairsOf_22 : decode cX4_listPairsOf 22 = .ok (.aload 4, 2) := by decide +kernel
theorem dX4_listPairsOf_24 : decode cX4_listPairsOf 24 = .ok (.iconst 1, 1) := by decide +kernel
theorem dX4_listPairsOf_25 : decode cX4_listPairsOf 25 = .ok (.invokevirtual 74, 3) := by decide +kernel
theorem dX4_listPairsOf_28 : decode cX4_listPairsOf 28 = .ok (.ifCond .eq 50, 3) := by decide +kernel
theorem dX4_listPairsOf_31 : decode cX4_listPairsOf 31 = .ok (.aload_n 0, 1) := by decide +kernel
theorem dX4_listPairsOf_32 : decode cX4_listPairsOf 32 = .ok (.getfield 44, 3) := by decide +kernel
theorem dX4_listPairsOf_35 : decode cX4_listPairsOf 35 = .ok (.aload_n 2, 1) := by decide +kernel
theorem dX4_listPairsOf_36 : decode cX4_listPairsOf 36 = .ok (.aload 4, 2) := by decide +kernel
theorem dX4_listPairsOf_38 : decode cX4_listPairsOf 38 = .ok (.aload_n 0, 1) := by decide +kernel
theorem dX4_listPairsOf_39 : decode cX4_listPairsOf 39 = .ok (.getfield 21, 3) := by decide +kernel
theorem dX4_listPairsOf_42 : decode cX4_listPairsOf 42 = .ok (.invokevirtual 97, 3) := by decide +kernel
theorem dX4_listPairsOf_45 : decode cX4_listPairsOf 45 = .ok (.aload_n 0, 1) := by decide +kernel
theorem dX4_listPairsOf_46 : decode cX4_listPairsOf 46 = .ok (.getfield 44, 3) := by decide +kernel
theorem dX4_listPairsOf_49 : decode cX4_listPairsOf 49 = .ok (.invokevirtual 101, 3) := by decide +kernel
theorem dX4_listPairsOf_52 : decode cX4_listPairsOf 52 = .ok (.ifCond .eq 26, 3) := by decide +kernel
theorem dX4_listPairsOf_55 : decode cX4_listPairsOf 55 = .ok (.aload_n 0, 1) := by decide +kernel
theorem dX4_listPairsOf_56 : decode cX4_listPairsOf 56 = .ok (.getfield 44, 3) := by decide +kernel
theorem dX4_listPairsOf_59 : decode cX4_listPairsOf 59 = .ok (.invokevirtual 163, 3) := by decide +kernel
theorem dX4_listPairsOf_62 : decode cX4_listPairsOf 62 = .ok (.ifCond .eq 16, 3) := by decide +kernel
theorem dX4_listPairsOf_65 : decode cX4_listPairsOf 65 = .ok (.aload_n 0, 1) := by decide +kernel
theorem dX4_listPairsOf_66 : decode cX4_listPairsOf 66 = .ok (.getfield 37, 3) := by decide +kernel
theorem dX4_listPairsOf_69 : decode cX4_listPairsOf 69 = .ok (.iload_n 1, 1) := by decide +kernel
theorem dX4_listPairsOf_70 : decode cX4_listPairsOf 70 = .ok (.iload_n 3, 1) := by decide +kernel
theorem dX4_listPairsOf_71 : decode cX4_listPairsOf 71 = .ok (.aload_n 0, 1) := by decide +kernel
theorem dX4_listPairsOf_72 : decode cX4_listPairsOf 72 = .ok (.getfield 44, 3) := by decide +kernel
theorem dX4_listPairsOf_75 : decode cX4_listPairsOf 75 = .ok (.invokevirtual 166, 3) := by decide +kernel
theorem dX4_listPairsOf_78 : decode cX4_listPairsOf 78 = .ok (.iinc 3 1, 3) := by decide +kernel
theorem dX4_listPairsOf_81 : decode cX4_listPairsOf 81 = .ok (.goto (-79), 3) := by decide +kernel
theorem dX4_listPairsOf_84 : decode cX4_listPairsOf 84 = .ok (.return_, 1) := by decide +kernel
