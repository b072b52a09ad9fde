theorem dX2_init_0 : decode cX2_init 0 = .ok (.aload_n 0, 1) := by decide +kernel
theorem dX2_init_1 : decode cX2_init 1 = .ok (.invokespecial 3, 3) := by decide +kernel
theorem dX2_init_4 : decode cX2_init 4 = .ok (.aload_n 0, 1) := by decide +kernel
theorem dX2_init_5 : decode cX2_init 5 = .ok (.iconst 0, 1) := by decide +kernel
theorem dX2_init_6 : decode cX2_init 6 = .ok (.putfield 9, 3) := by decide +kernel
theorem dX2_init_9 : decode cX2_init 9 = .ok (.aload_n 0, 1) := by decide +kernel
theorem dX2_init_10 : decode cX2_init 10 = .ok (.iconst 0, 1) := by decide +kernel
theorem dX2_init_11 : decode cX2_init 11 = .ok (.putfield 15, 3) := by decide +kernel
theorem dX2_init_14 : decode cX2_init 14 = .ok (.aload_n 0, 1) := by decide +kernel
theorem dX2_init_15 : decode cX2_init 15 = .ok (.sipush 625, 3) := by decide +kernel
theorem dX2_init_18 : decode cX2_init 18 = .ok (.newarray .int, 2) := by decide +kernel
theorem dX2_init_20 : decode cX2_init 20 = .ok (.putfield 19, 3) := by decide +kernel
theorem dX2_init_23 : decode cX2_init 23 = .ok (.aload_n 0, 1) := by decide +kernel
theorem dX2_init_24 : decode cX2_init 24 = .ok (.sipush 625, 3) := by decide +kernel
theorem dX2_init_27 : decode cX2_init 27 = .ok (.newarray .int, 2) := by decide +kernel
theorem dX2_init_29 : decode cX2_init 29 = .ok (.putfield 23, 3) := by decide +kernel
theorem dX2_init_32 : decode cX2_init 32 = .ok (.aload_n 0, 1) := by decide +kernel
theorem dX2_init_33 : decode cX2_init 33 = .ok (.sipush 625, 3) := by decide +kernel
theorem dX2_init_36 : decode cX2_init 36 = .ok (.newarray .long, 2) := by decide +kernel
theorem dX2_init_38 : decode cX2_init 38 = .ok (.putfield 26, 3) := by decide +kernel
theorem dX2_init_41 : decode cX2_init 41 = .ok (.aload_n 0, 1) := by decide +kernel
theorem dX2_init_42 : decode cX2_init 42 = .ok (.sipush 625, 3) := by decide +kernel
theorem dX2_init_45 : decode cX2_init 45 = .ok (.newarray .long, 2) := by decide +kernel
theorem dX2_init_47 : decode cX2_init 47 = .ok (.putfield 30, 3) := by decide +kernel
theorem dX2_init_50 : decode cX2_init 50 = .ok (.aload_n 0, 1) := by decide +kernel
theorem dX2_init_51 : decode cX2_init 51 = .ok (.sipush 625, 3) := by decide +kernel
theorem dX2_init_54 : decode cX2_init 54 = .ok (.newarray .int, 2) := by decide +kernel
theorem dX2_init_56 : decode cX2_init 56 = .ok (.putfield 33, 3) := by decide +kernel
theorem dX2_init_59 : decode cX2_init 59 = .ok (.aload_n 0, 1) := by decide +kernel
theorem dX2_init_60 : decode cX2_init 60 = .ok (.sipush 625, 3) := by decide +kernel
theorem dX2_init_63 : decode cX2_init 63 = .ok (.newarray .int, 2) := by decide +kernel
theorem dX2_init_65 : decode cX2_init 65 = .ok (.putfield 36, 3) := by decide +kernel
theorem dX2_init_68 : decode cX2_init 68 = .ok (.aload_n 0, 1) := by decide +kernel
theorem dX2_init_69 : decode cX2_init 69 = .ok (.bipush 51, 2) := by decide +kernel
theorem dX2_init_71 : decode cX2_init 71 = .ok (.newarray .boolean, 2) := by decide +kernel
theorem dX2_init_73 : decode cX2_init 73 = .ok (.putfield 39, 3) := by decide +kernel
theorem dX2_init_76 : decode cX2_init 76 = .ok (.return_, 1) := by decide +kernel
theorem dX2_begin_0 : decode cX2_begin 0 = .ok (.aload_n 0, 1) := by decide +kernel
theorem dX2_begin_1 : decode cX2_begin 1 = .ok (.iconst 1, 1) := by decide +kernel
theorem dX2_begin_2 : decode cX2_begin 2 = .ok (.putfield 9, 3) := by decide +kernel
theorem dX2_begin_5 : decode cX2_begin 5 = .ok (.aload_n 0, 1) := by decide +kernel
theorem dX2_begin_6 : decode cX2_begin 6 = .ok (.iconst 0, 1) := by decide +kernel
theorem dX2_begin_7 : decode cX2_begin 7 = .ok (.putfield 15, 3) := by decide +kernel
theorem dX2_begin_10 : decode cX2_begin 10 = .ok (.iconst 0, 1) := by decide +kernel
theorem dX2_begin_11 : decode cX2_begin 11 = .ok (.istore_n 1, 1) := by decide +kernel
theorem dX2_begin_12 : decode cX2_begin 12 = .ok (.iload_n 1, 1) := by decide +kernel
theorem dX2_begin_13 : decode cX2_begin 13 = .ok (.bipush 50, 2) := by decide +kernel
theorem dX2_begin_15 : decode cX2_begin 15 = .ok (.if_icmp .gt 16, 3) := by decide +kernel
theorem dX2_begin_18 : decode cX2_begin 18 = .ok (.aload_n 0, 1) := by decide +kernel
theorem dX2_begin_19 : decode cX2_begin 19 = .ok (.getfield 39, 3) := by decide +kernel
theorem dX2_begin_22 : decode cX2_begin 22 = .ok (.iload_n 1, 1) := by decide +kernel
theorem dX2_begin_23 : decode cX2_begin 23 = .ok (.iconst 0, 1) := by decide +kernel
theorem dX2_begin_24 : decode cX2_begin 24 = .ok (.bastore, 1) := by decide +kernel
theorem dX2_begin_25 : decode cX2_begin 25 = .ok (.iinc 1 1, 3) := by decide +kernel
theorem dX2_begin_28 : decode cX2_begin 28 = .ok (.goto (-16), 3) := by decide +kernel
theorem dX2_begin_31 : decode cX2_begin 31 = .ok (.return_, 1) := by decide +kernel
theorem dX2_add_0 : decode cX2_add 0 = .ok (.aload_n 0, 1) := by decide +kernel
theorem dX2_add_1 : decode cX2_add 1 = .ok (.getfield 15, 3) := by decide +kernel
theorem dX2_add_4 : decode cX2_add 4 = .ok (.sipush 625, 3) := by decide +kernel
theorem dX2_add_7 : decode cX2_add 7 = .ok (.if_icmp .lt 4, 3) := by decide +kernel
theorem dX2_add_10 : decode cX2_add 10 = .ok (.return_, 1) := by decide +kernel
theorem dX2_add_11 : decode cX2_add 11 = .ok (.aload_n 0, 1) := by decide +kernel
theorem dX2_add_12 : decode cX2_add 12 = .ok (.getfield 19, 3) := by decide +kernel
theorem dX2_add_15 : decode cX2_add 15 = .ok (.aload_n 0, 1) := by decide +kernel
theorem dX2_add_16 : decode cX2_add 16 = .ok (.getfield 15, 3) := by decide +kernel
theorem dX2_add_19 : decode cX2_add 19 = .ok (.iload_n 1, 1) := by decide +kernel
theorem dX2_add_20 : decode cX2_add 20 = .ok (.iastore, 1) := by decide +kernel
theorem dX2_add_21 : decode cX2_add 21 = .ok (.aload_n 0, 1) := by decide +kernel
theorem dX2_add_22 : decode cX2_add 22 = .ok (.getfield 23, 3) := by decide +kernel
theorem dX2_add_25 : decode cX2_add 25 = .ok (.aload_n 0, 1) := by decide +kernel
theorem dX2_add_26 : decode cX2_add 26 = .ok (.getfield 15, 3) := by decide +kernel
theorem dX2_add_29 : decode cX2_add 29 = .ok (.iload_n 2, 1) := by decide +kernel
theorem dX2_add_30 : decode cX2_add 30 = .ok (.iastore, 1) := by decide +kernel
theorem dX2_add_31 : decode cX2_add 31 = .ok (.aload_n 0, 1) := by decide +kernel
theorem dX2_add_32 : decode cX2_add 32 = .ok (.getfield 26, 3) := by decide +kernel
theorem dX2_add_35 : decode cX2_add 35 = .ok (.aload_n 0, 1) := by decide +kernel
theorem dX2_add_36 : decode cX2_add 36 = .ok (.getfield 15, 3) := by decide +kernel
theorem dX2_add_39 : decode cX2_add 39 = .ok (.aload_n 3, 1) := by decide +kernel
theorem dX2_add_40 : decode cX2_add 40 = .ok (.getfield 43, 3) := by decide +kernel
theorem dX2_add_43 : decode cX2_add 43 = .ok (.lastore, 1) := by decide +kernel
theorem dX2_add_44 : decode cX2_add 44 = .ok (.aload_n 0, 1) := by decide +kernel
theorem dX2_add_45 : decode cX2_add 45 = .ok (.getfield 30, 3) := by decide +kernel
theorem dX2_add_48 : decode cX2_add 48 = .ok (.aload_n 0, 1) := by decide +kernel
theorem dX2_add_49 : decode cX2_add 49 = .ok (.getfield 15, 3) := by decide +kernel
theorem dX2_add_52 : decode cX2_add 52 = .ok (.aload_n 3, 1) := by decide +kernel
theorem dX2_add_53 : decode cX2_add 53 = .ok (.getfield 49, 3) := by decide +kernel
theorem dX2_add_56 : decode cX2_add 56 = .ok (.lastore, 1) := by decide +kernel
theorem dX2_add_57 : decode cX2_add 57 = .ok (.aload_n 0, 1) := by decide +kernel
theorem dX2_add_58 : decode cX2_add 58 = .ok (.getfield 33, 3) := by decide +kernel
theorem dX2_add_61 : decode cX2_add 61 = .ok (.aload_n 0, 1) := by decide +kernel
theorem dX2_add_62 : decode cX2_add 62 = .ok (.getfield 15, 3) := by decide +kernel
theorem dX2_add_65 : decode cX2_add 65 = .ok (.aload_n 0, 1) := by decide +kernel
theorem dX2_add_66 : decode cX2_add 66 = .ok (.getfield 15, 3) := by decide +kernel
theorem dX2_add_69 : decode cX2_add 69 = .ok (.iastore, 1) := by decide +kernel
theorem dX2_add_70 : decode cX2_add 70 = .ok (.aload_n 0, 1) := by decide +kernel
theorem dX2_add_71 : decode cX2_add 71 = .ok (.getfield 39, 3) := by decide +kernel
theorem dX2_add_74 : decode cX2_add 74 = .ok (.iload_n 1, 1) := by decide +kernel
theorem dX2_add_75 : decode cX2_add 75 = .ok (.iconst 1, 1) := by decide +kernel
theorem dX2_add_76 : decode cX2_add 76 = .ok (.bastore, 1) := by decide +kernel
theorem dX2_add_77 : decode cX2_add 77 = .ok (.aload_n 0, 1) := by decide +kernel
theorem dX2_add_78 : decode cX2_add 78 = .ok (.getfield 39, 3) := by decide +kernel
theorem dX2_add_81 : decode cX2_add 81 = .ok (.iload_n 2, 1) := by decide +kernel
theorem dX2_add_82 : decode cX2_add 82 = .ok (.iconst 1, 1) := by decide +kernel
theorem dX2_add_83 : decode cX2_add 83 = .ok (.bastore, 1) := by decide +kernel
theorem dX2_add_84 : decode cX2_add 84 = .ok (.aload_n 0, 1) := by decide +kernel
theorem dX2_add_85 : decode cX2_add 85 = .ok (.dup, 1) := by decide +kernel
theorem dX2_add_86 : decode cX2_add 86 = .ok (.getfield 15, 3) := by decide +kernel
theorem dX2_add_89 : decode cX2_add 89 = .ok (.iconst 1, 1) := by decide +kernel
theorem dX2_add_90 : decode cX2_add 90 = .ok (.iadd, 1) := by decide +kernel
theorem dX2_add_91 : decode cX2_add 91 = .ok (.putfield 15, 3) := by decide +kernel
theorem dX2_add_94 : decode cX2_add 94 = .ok (.return_, 1) := by decide +kernel
theorem dX2_size_0 : decode cX2_size 0 = .ok (.aload_n 0, 1) := by decide +kernel
theorem dX2_size_1 : decode cX2_size 1 = .ok (.getfield 15, 3) := by decide +kernel
theorem dX2_size_4 : decode cX2_size 4 = .ok (.ireturn, 1) := by decide +kernel
theorem dX2_holds_0 : decode cX2_holds 0 = .ok (.iload_n 1, 1) := by decide +kernel
theorem dX2_holds_1 : decode cX2_holds 1 = .ok (.ifCond .lt 15, 3) := by decide +kernel
theorem dX2_holds_4 : decode cX2_holds 4 = .ok (.iload_n 1, 1) := by decide +kernel
theorem dX2_holds_5 : decode cX2_holds 5 = .ok (.aload_n 0, 1) := by decide +kernel
theorem dX2_holds_6 : decode cX2_holds 6 = .ok (.getfield 15, 3) := by decide +kernel
theorem dX2_holds_9 : decode cX2_holds 9 = .ok (.if_icmp .ge 7, 3) := by decide +kernel
theorem dX2_holds_12 : decode cX2_holds 12 = .ok (.iconst 1, 1) := by decide +kernel
theorem dX2_holds_13 : decode cX2_holds 13 = .ok (.goto 4, 3) := by decide +kernel
theorem dX2_holds_16 : decode cX2_holds 16 = .ok (.iconst 0, 1) := by decide +kernel
theorem dX2_holds_17 : decode cX2_holds 17 = .ok (.ireturn, 1) := by decide +kernel
theorem dX2_hasName_0 : decode cX2_hasName 0 = .ok (.iload_n 1, 1) := by decide +kernel
theorem dX2_hasName_1 : decode cX2_hasName 1 = .ok (.ifCond .lt 22, 3) := by decide +kernel
theorem dX2_hasName_4 : decode cX2_hasName 4 = .ok (.iload_n 1, 1) := by decide +kernel
theorem dX2_hasName_5 : decode cX2_hasName 5 = .ok (.bipush 50, 2) := by decide +kernel
theorem dX2_hasName_7 : decode cX2_hasName 7 = .ok (.if_icmp .gt 16, 3) := by decide +kernel
theorem dX2_hasName_10 : decode cX2_hasName 10 = .ok (.aload_n 0, 1) := by decide +kernel
theorem dX2_hasName_11 : decode cX2_hasName 11 = .ok (.getfield 39, 3) := by decide +kernel
theorem dX2_hasName_14 : decode cX2_hasName 14 = .ok (.iload_n 1, 1) := by decide +kernel
theorem dX2_hasName_15 : decode cX2_hasName 15 = .ok (.baload, 1) := by decide +kernel
theorem dX2_hasName_16 : decode cX2_hasName 16 = .ok (.ifCond .eq 7, 3) := by decide +kernel
theorem dX2_hasName_19 : decode cX2_hasName 19 = .ok (.iconst 1, 1) := by decide +kernel
theorem dX2_hasName_20 : decode cX2_hasName 20 = .ok (.goto 4, 3) := by decide +kernel
theorem dX2_hasName_23 : decode cX2_hasName 23 = .ok (.iconst 0, 1) := by decide +kernel
theorem dX2_hasName_24 : decode cX2_hasName 24 = .ok (.ireturn, 1) := by decide +kernel
theorem dX2_nameAt_0 : decode cX2_nameAt 0 = .ok (.aload_n 0, 1) := by decide +kernel
theorem dX2_nameAt_1 : decode cX2_nameAt 1 = .ok (.getfield 33, 3) := by decide +kernel
theorem dX2_nameAt_4 : decode cX2_nameAt 4 = .ok (.iload_n 1, 1) := by decide +kernel
theorem dX2_nameAt_5 : decode cX2_nameAt 5 = .ok (.iaload, 1) := by decide +kernel
theorem dX2_nameAt_6 : decode cX2_nameAt 6 = .ok (.istore_n 3, 1) := by decide +kernel
theorem dX2_nameAt_7 : decode cX2_nameAt 7 = .ok (.iload_n 2, 1) := by decide +kernel
theorem dX2_nameAt_8 : decode cX2_nameAt 8 = .ok (.iconst 1, 1) := by decide +kernel
theorem dX2_nameAt_9 : decode cX2_nameAt 9 = .ok (.if_icmp .ne 12, 3) := by decide +kernel
theorem dX2_nameAt_12 : decode cX2_nameAt 12 = .ok (.aload_n 0, 1) := by decide +kernel
theorem dX2_nameAt_13 : decode cX2_nameAt 13 = .ok (.getfield 23, 3) := by decide +kernel
theorem dX2_nameAt_16 : decode cX2_nameAt 16 = .ok (.iload_n 3, 1) := by decide +kernel
theorem dX2_nameAt_17 : decode cX2_nameAt 17 = .ok (.iaload, 1) := by decide +kernel
theorem dX2_nameAt_18 : decode cX2_nameAt 18 = .ok (.goto 9, 3) := by decide +kernel
theorem dX2_nameAt_21 : decode cX2_nameAt 21 = .ok (.aload_n 0, 1) := by decide +kernel
theorem dX2_nameAt_22 : decode cX2_nameAt 22 = .ok (.getfield 19, 3) := by decide +kernel
theorem dX2_nameAt_25 : decode cX2_nameAt 25 = .ok (.iload_n 3, 1) := by decide +kernel
theorem dX2_nameAt_26 : decode cX2_nameAt 26 = .ok (.iaload, 1) := by decide +kernel
theorem dX2_nameAt_27 : decode cX2_nameAt 27 = .ok (.ireturn, 1) := by decide +kernel
set_option maxRecDepth 20000 in
theorem ggX2_sort_X2_merge : GoodIn wsX2_sort wsX2_merge := goodIn_ca (goodIn_r _ [16, 7, 6, 17, 18, 19, 15, 20, 21, 22, 23, 24, 25, 26, 27, 28, 29, 30, 31] (by decide +kernel) (by decide +kernel)) (goodIn_sub (fun _ h => List.mem_cons_of_mem _ (List.mem_append_right _ h)) (by decide +kernel))
set_option maxRecDepth 20000 in
theorem gX2_sort_X2_merge : GoodIn wsX2_sort (wsV RX2 58 RX2 yX2_merge wsX2_merge) := goodIn_app (goodIn_of _ (by decide +kernel)) ggX2_sort_X2_merge
theorem dX2_sort_0 : decode cX2_sort 0 = .ok (.iconst 1, 1) := by decide +kernel
theorem dX2_sort_1 : decode cX2_sort 1 = .ok (.istore_n 1, 1) := by decide +kernel
theorem dX2_sort_2 : decode cX2_sort 2 = .ok (.iload_n 1, 1) := by decide +kernel
theorem dX2_sort_3 : decode cX2_sort 3 = .ok (.aload_n 0, 1) := by decide +kernel
theorem dX2_sort_4 : decode cX2_sort 4 = .ok (.getfield 15, 3) := by decide +kernel
theorem dX2_sort_7 : decode cX2_sort 7 = .ok (.if_icmp .ge 73, 3) := by decide +kernel
theorem dX2_sort_10 : decode cX2_sort 10 = .ok (.iconst 0, 1) := by decide +kernel
theorem dX2_sort_11 : decode cX2_sort 11 = .ok (.istore_n 2, 1) := by decide +kernel
theorem dX2_sort_12 : decode cX2_sort 12 = .ok (.iload_n 2, 1) := by decide +kernel
theorem dX2_sort_13 : decode cX2_sort 13 = .ok (.aload_n 0, 1) := by decide +kernel
theorem dX2_sort_14 : decode cX2_sort 14 = .ok (.getfield 15, 3) := by decide +kernel
theorem dX2_sort_17 : decode cX2_sort 17 = .ok (.if_icmp .ge 39, 3) := by decide +kernel
theorem dX2_sort_20 : decode cX2_sort 20 = .ok (.aload_n 0, 1) := by decide +kernel
theorem dX2_sort_21 : decode cX2_sort 21 = .ok (.iload_n 2, 1) := by decide +kernel
theorem dX2_sort_22 : decode cX2_sort 22 = .ok (.iload_n 2, 1) := by decide +kernel
theorem dX2_sort_23 : decode cX2_sort 23 = .ok (.iload_n 1, 1) := by decide +kernel
theorem dX2_sort_24 : decode cX2_sort 24 = .ok (.iadd, 1) := by decide +kernel
theorem dX2_sort_25 : decode cX2_sort 25 = .ok (.aload_n 0, 1) := by decide +kernel
theorem dX2_sort_26 : decode cX2_sort 26 = .ok (.getfield 15, 3) := by decide +kernel
theorem dX2_sort_29 : decode cX2_sort 29 = .ok (.invokestatic 52, 3) := by decide +kernel
theorem dX2_sort_32 : decode cX2_sort 32 = .ok (.iload_n 2, 1) := by decide +kernel
theorem dX2_sort_33 : decode cX2_sort 33 = .ok (.iconst 2, 1) := by decide +kernel
theorem dX2_sort_34 : decode cX2_sort 34 = .ok (.iload_n 1, 1) := by decide +kernel
theorem dX2_sort_35 : decode cX2_sort 35 = .ok (.imul, 1) := by decide +kernel
theorem dX2_sort_36 : decode cX2_sort 36 = .ok (.iadd, 1) := by decide +kernel
theorem dX2_sort_37 : decode cX2_sort 37 = .ok (.aload_n 0, 1) := by decide +kernel
theorem dX2_sort_38 : decode cX2_sort 38 = .ok (.getfield 15, 3) := by decide +kernel
theorem dX2_sort_41 : decode cX2_sort 41 = .ok (.invokestatic 52, 3) := by decide +kernel
theorem dX2_sort_44 : decode cX2_sort 44 = .ok (.invokevirtual 58, 3) := by decide +kernel
theorem dX2_sort_47 : decode cX2_sort 47 = .ok (.iload_n 2, 1) := by decide +kernel
theorem dX2_sort_48 : decode cX2_sort 48 = .ok (.iconst 2, 1) := by decide +kernel
theorem dX2_sort_49 : decode cX2_sort 49 = .ok (.iload_n 1, 1) := by decide +kernel
theorem dX2_sort_50 : decode cX2_sort 50 = .ok (.imul, 1) := by decide +kernel
theorem dX2_sort_51 : decode cX2_sort 51 = .ok (.iadd, 1) := by decide +kernel
theorem dX2_sort_52 : decode cX2_sort 52 = .ok (.istore_n 2, 1) := by decide +kernel
theorem dX2_sort_53 : decode cX2_sort 53 = .ok (.goto (-41), 3) := by decide +kernel
theorem dX2_sort_56 : decode cX2_sort 56 = .ok (.aload_n 0, 1) := by decide +kernel
theorem dX2_sort_57 : decode cX2_sort 57 = .ok (.getfield 36, 3) := by decide +kernel
theorem dX2_sort_60 : decode cX2_sort 60 = .ok (.iconst 0, 1) := by decide +kernel
theorem dX2_sort_61 : decode cX2_sort 61 = .ok (.aload_n 0, 1) := by decide +kernel
theorem dX2_sort_62 : decode cX2_sort 62 = .ok (.getfield 33, 3) := by decide +kernel
theorem dX2_sort_65 : decode cX2_sort 65 = .ok (.iconst 0, 1) := by decide +kernel
theorem dX2_sort_66 : decode cX2_sort 66 = .ok (.aload_n 0, 1) := by decide +kernel
theorem dX2_sort_67 : decode cX2_sort 67 = .ok (.getfield 15, 3) := by decide +kernel
theorem dX2_sort_70 : decode cX2_sort 70 = .ok (.invokestatic 62, 3) := by decide +kernel
theorem dX2_sort_73 : decode cX2_sort 73 = .ok (.iload_n 1, 1) := by decide +kernel
theorem dX2_sort_74 : decode cX2_sort 74 = .ok (.iconst 2, 1) := by decide +kernel
theorem dX2_sort_75 : decode cX2_sort 75 = .ok (.imul, 1) := by decide +kernel
theorem dX2_sort_76 : decode cX2_sort 76 = .ok (.istore_n 1, 1) := by decide +kernel
theorem dX2_sort_77 : decode cX2_sort 77 = .ok (.goto (-75), 3) := by decide +kernel
theorem dX2_sort_80 : decode cX2_sort 80 = .ok (.return_, 1) := by decide +kernel
set_option maxRecDepth 20000 in
theorem ggX2_merge_X2_isGreater : GoodIn wsX2_merge wsX2_isGreater := goodIn_ca (goodIn_r _ [7, 8, 9, 10, 11, 12, 13, 14, 15, 16, 17, 18] (by decide +kernel) (by decide +kernel)) (goodIn_sub (fun _ h => List.mem_cons_of_mem _ (List.mem_append_right _ h)) (by decide +kernel))
set_option maxRecDepth 20000 in
theorem gX2_merge_X2_isGreater : GoodIn wsX2_merge (wsV RX2 68 RX2 yX2_isGreater wsX2_isGreater) := goodIn_app (goodIn_of _ (by decide +kernel)) ggX2_merge_X2_isGreater
theorem dX2_merge_0 : decode cX2_merge 0 = .ok (.iload_n 1, 1) := by decide +kernel
theorem dX2_merge_1 : decode cX2_merge 1 = .ok (.istore 4, 2) := by decide +kernel
theorem dX2_merge_3 : decode cX2_merge 3 = .ok (.iload_n 2, 1) := by decide +kernel
theorem dX2_merge_4 : decode cX2_merge 4 = .ok (.istore 5, 2) := by decide +kernel
theorem dX2_merge_6 : decode cX2_merge 6 = .ok (.iload_n 1, 1) := by decide +kernel
theorem dX2_merge_7 : decode cX2_merge 7 = .ok (.istore 6, 2) := by decide +kernel
theorem dX2_merge_9 : decode cX2_merge 9 = .ok (.iload 6, 2) := by decide +kernel
theorem dX2_merge_11 : decode cX2_merge 11 = .ok (.iload_n 3, 1) := by decide +kernel
theorem dX2_merge_12 : decode cX2_merge 12 = .ok (.if_icmp .ge 79, 3) := by decide +kernel
theorem dX2_merge_15 : decode cX2_merge 15 = .ok (.iload 5, 2) := by decide +kernel
theorem dX2_merge_17 : decode cX2_merge 17 = .ok (.iload_n 3, 1) := by decide +kernel
theorem dX2_merge_18 : decode cX2_merge 18 = .ok (.if_icmp .ge 30, 3) := by decide +kernel
theorem dX2_merge_21 : decode cX2_merge 21 = .ok (.iload 4, 2) := by decide +kernel
theorem dX2_merge_23 : decode cX2_merge 23 = .ok (.iload_n 2, 1) := by decide +kernel
theorem dX2_merge_24 : decode cX2_merge 24 = .ok (.if_icmp .ge 44, 3) := by decide +kernel
theorem dX2_merge_27 : decode cX2_merge 27 = .ok (.aload_n 0, 1) := by decide +kernel
theorem dX2_merge_28 : decode cX2_merge 28 = .ok (.aload_n 0, 1) := by decide +kernel
theorem dX2_merge_29 : decode cX2_merge 29 = .ok (.getfield 33, 3) := by decide +kernel
theorem dX2_merge_32 : decode cX2_merge 32 = .ok (.iload 5, 2) := by decide +kernel
theorem dX2_merge_34 : decode cX2_merge 34 = .ok (.iaload, 1) := by decide +kernel
theorem dX2_merge_35 : decode cX2_merge 35 = .ok (.aload_n 0, 1) := by decide +kernel
theorem dX2_merge_36 : decode cX2_merge 36 = .ok (.getfield 33, 3) := by decide +kernel
theorem dX2_merge_39 : decode cX2_merge 39 = .ok (.iload 4, 2) := by decide +kernel
theorem dX2_merge_41 : decode cX2_merge 41 = .ok (.iaload, 1) := by decide +kernel
theorem dX2_merge_42 : decode cX2_merge 42 = .ok (.invokevirtual 68, 3) := by decide +kernel
theorem dX2_merge_45 : decode cX2_merge 45 = .ok (.ifCond .ne 23, 3) := by decide +kernel
theorem dX2_merge_48 : decode cX2_merge 48 = .ok (.aload_n 0, 1) := by decide +kernel
theorem dX2_merge_49 : decode cX2_merge 49 = .ok (.getfield 36, 3) := by decide +kernel
theorem dX2_merge_52 : decode cX2_merge 52 = .ok (.iload 6, 2) := by decide +kernel
theorem dX2_merge_54 : decode cX2_merge 54 = .ok (.aload_n 0, 1) := by decide +kernel
theorem dX2_merge_55 : decode cX2_merge 55 = .ok (.getfield 33, 3) := by decide +kernel
theorem dX2_merge_58 : decode cX2_merge 58 = .ok (.iload 4, 2) := by decide +kernel
theorem dX2_merge_60 : decode cX2_merge 60 = .ok (.iaload, 1) := by decide +kernel
theorem dX2_merge_61 : decode cX2_merge 61 = .ok (.iastore, 1) := by decide +kernel
theorem dX2_merge_62 : decode cX2_merge 62 = .ok (.iinc 4 1, 3) := by decide +kernel
theorem dX2_merge_65 : decode cX2_merge 65 = .ok (.goto 20, 3) := by decide +kernel
theorem dX2_merge_68 : decode cX2_merge 68 = .ok (.aload_n 0, 1) := by decide +kernel
theorem dX2_merge_69 : decode cX2_merge 69 = .ok (.getfield 36, 3) := by decide +kernel
theorem dX2_merge_72 : decode cX2_merge 72 = .ok (.iload 6, 2) := by decide +kernel
theorem dX2_merge_74 : decode cX2_merge 74 = .ok (.aload_n 0, 1) := by decide +kernel
theorem dX2_merge_75 : decode cX2_merge 75 = .ok (.getfield 33, 3) := by decide +kernel
theorem dX2_merge_78 : decode cX2_merge 78 = .ok (.iload 5, 2) := by decide +kernel
theorem dX2_merge_80 : decode cX2_merge 80 = .ok (.iaload, 1) := by decide +kernel
theorem dX2_merge_81 : decode cX2_merge 81 = .ok (.iastore, 1) := by decide +kernel
theorem dX2_merge_82 : decode cX2_merge 82 = .ok (.iinc 5 1, 3) := by decide +kernel
theorem dX2_merge_85 : decode cX2_merge 85 = .ok (.iinc 6 1, 3) := by decide +kernel
theorem dX2_merge_88 : decode cX2_merge 88 = .ok (.goto (-79), 3) := by decide +kernel
theorem dX2_merge_91 : decode cX2_merge 91 = .ok (.return_, 1) := by decide +kernel
theorem dX2_isGreater_0 : decode cX2_isGreater 0 = .ok (.aload_n 0, 1) := by decide +kernel
theorem dX2_isGreater_1 : decode cX2_isGreater 1 = .ok (.getfield 26, 3) := by decide +kernel
theorem dX2_isGreater_4 : decode cX2_isGreater 4 = .ok (.iload_n 1, 1) := by decide +kernel
theorem dX2_isGreater_5 : decode cX2_isGreater 5 = .ok (.laload, 1) := by decide +kernel
theorem dX2_isGreater_6 : decode cX2_isGreater 6 = .ok (.aload_n 0, 1) := by decide +kernel
theorem dX2_isGreater_7 : decode cX2_isGreater 7 = .ok (.getfield 30, 3) := by decide +kernel
theorem dX2_isGreater_10 : decode cX2_isGreater 10 = .ok (.iload_n 2, 1) := by decide +kernel
theorem dX2_isGreater_11 : decode cX2_isGreater 11 = .ok (.laload, 1) := by decide +kernel
theorem dX2_isGreater_12 : decode cX2_isGreater 12 = .ok (.lmul, 1) := by decide +kernel
theorem dX2_isGreater_13 : decode cX2_isGreater 13 = .ok (.aload_n 0, 1) := by decide +kernel
theorem dX2_isGreater_14 : decode cX2_isGreater 14 = .ok (.getfield 26, 3) := by decide +kernel
theorem dX2_isGreater_17 : decode cX2_isGreater 17 = .ok (.iload_n 2, 1) := by decide +kernel
theorem dX2_isGreater_18 : decode cX2_isGreater 18 = .ok (.laload, 1) := by decide +kernel
theorem dX2_isGreater_19 : decode cX2_isGreater 19 = .ok (.aload_n 0, 1) := by decide +kernel
theorem dX2_isGreater_20 : decode cX2_isGreater 20 = .ok (.getfield 30, 3) := by decide +kernel
theorem dX2_isGreater_23 : decode cX2_isGreater 23 = .ok (.iload_n 1, 1) := by decide +kernel
theorem dX2_isGreater_24 : decode cX2_isGreater 24 = .ok (.laload, 1) := by decide +kernel
theorem dX2_isGreater_25 : decode cX2_isGreater 25 = .ok (.lmul, 1) := by decide +kernel
theorem dX2_isGreater_26 : decode cX2_isGreater 26 = .ok (.lcmp, 1) := by decide +kernel
theorem dX2_isGreater_27 : decode cX2_isGreater 27 = .ok (.ifCond .le 7, 3) := by decide +kernel
theorem dX2_isGreater_30 : decode cX2_isGreater 30 = .ok (.iconst 1, 1) := by decide +kernel
theorem dX2_isGreater_31 : decode cX2_isGreater 31 = .ok (.goto 4, 3) := by decide +kernel
theorem dX2_isGreater_34 : decode cX2_isGreater 34 = .ok (.iconst 0, 1) := by decide +kernel
theorem dX2_isGreater_35 : decode cX2_isGreater 35 = .ok (.ireturn, 1) := by decide +kernel
set_option maxRecDepth 20000 in
theorem ggX2_isBestOfBoth_X2_isGreater : GoodIn wsX2_isBestOfBoth wsX2_isGreater := goodIn_ca (goodIn_r _ [8, 9, 10, 11, 12, 13, 14, 15, 16, 17, 18, 19] (by decide +kernel) (by decide +kernel)) (goodIn_sub (fun _ h => List.mem_cons_of_mem _ (List.mem_append_right _ h)) (by decide +kernel))
set_option maxRecDepth 20000 in
theorem gX2_isBestOfBoth_X2_isGreater : GoodIn wsX2_isBestOfBoth (wsV RX2 68 RX2 yX2_isGreater wsX2_isGreater) := goodIn_app (goodIn_of _ (by decide +kernel)) ggX2_isBestOfBoth_X2_isGreater
theorem dX2_isBestOfBoth_0 : decode cX2_isBestOfBoth 0 = .ok (.aload_n 0, 1) := by decide +kernel
theorem dX2_isBestOfBoth_1 : decode cX2_isBestOfBoth 1 = .ok (.getfield 33, 3) := by decide +kernel
theorem dX2_isBestOfBoth_4 : decode cX2_isBestOfBoth 4 = .ok (.iload_n 1, 1) := by decide +kernel
theorem dX2_isBestOfBoth_5 : decode cX2_isBestOfBoth 5 = .ok (.iaload, 1) := by decide +kernel
theorem dX2_isBestOfBoth_6 : decode cX2_isBestOfBoth 6 = .ok (.istore_n 2, 1) := by decide +kernel
theorem dX2_isBestOfBoth_7 : decode cX2_isBestOfBoth 7 = .ok (.iconst 0, 1) := by decide +kernel
theorem dX2_isBestOfBoth_8 : decode cX2_isBestOfBoth 8 = .ok (.istore_n 3, 1) := by decide +kernel
theorem dX2_isBestOfBoth_9 : decode cX2_isBestOfBoth 9 = .ok (.iload_n 3, 1) := by decide +kernel
theorem dX2_isBestOfBoth_10 : decode cX2_isBestOfBoth 10 = .ok (.iload_n 1, 1) := by decide +kernel
theorem dX2_isBestOfBoth_11 : decode cX2_isBestOfBoth 11 = .ok (.if_icmp .ge 73, 3) := by decide +kernel
theorem dX2_isBestOfBoth_14 : decode cX2_isBestOfBoth 14 = .ok (.aload_n 0, 1) := by decide +kernel
theorem dX2_isBestOfBoth_15 : decode cX2_isBestOfBoth 15 = .ok (.getfield 33, 3) := by decide +kernel
theorem dX2_isBestOfBoth_18 : decode cX2_isBestOfBoth 18 = .ok (.iload_n 3, 1) := by decide +kernel
theorem dX2_isBestOfBoth_19 : decode cX2_isBestOfBoth 19 = .ok (.iaload, 1) := by decide +kernel
theorem dX2_isBestOfBoth_20 : decode cX2_isBestOfBoth 20 = .ok (.istore 4, 2) := by decide +kernel
theorem dX2_isBestOfBoth_22 : decode cX2_isBestOfBoth 22 = .ok (.aload_n 0, 1) := by decide +kernel
theorem dX2_isBestOfBoth_23 : decode cX2_isBestOfBoth 23 = .ok (.getfield 19, 3) := by decide +kernel
theorem dX2_isBestOfBoth_26 : decode cX2_isBestOfBoth 26 = .ok (.iload 4, 2) := by decide +kernel
theorem dX2_isBestOfBoth_28 : decode cX2_isBestOfBoth 28 = .ok (.iaload, 1) := by decide +kernel
theorem dX2_isBestOfBoth_29 : decode cX2_isBestOfBoth 29 = .ok (.aload_n 0, 1) := by decide +kernel
theorem dX2_isBestOfBoth_30 : decode cX2_isBestOfBoth 30 = .ok (.getfield 19, 3) := by decide +kernel
theorem dX2_isBestOfBoth_33 : decode cX2_isBestOfBoth 33 = .ok (.iload_n 2, 1) := by decide +kernel
theorem dX2_isBestOfBoth_34 : decode cX2_isBestOfBoth 34 = .ok (.iaload, 1) := by decide +kernel
theorem dX2_isBestOfBoth_35 : decode cX2_isBestOfBoth 35 = .ok (.if_icmp .eq 19, 3) := by decide +kernel
theorem dX2_isBestOfBoth_38 : decode cX2_isBestOfBoth 38 = .ok (.aload_n 0, 1) := by decide +kernel
theorem dX2_isBestOfBoth_39 : decode cX2_isBestOfBoth 39 = .ok (.getfield 23, 3) := by decide +kernel
theorem dX2_isBestOfBoth_42 : decode cX2_isBestOfBoth 42 = .ok (.iload 4, 2) := by decide +kernel
theorem dX2_isBestOfBoth_44 : decode cX2_isBestOfBoth 44 = .ok (.iaload, 1) := by decide +kernel
theorem dX2_isBestOfBoth_45 : decode cX2_isBestOfBoth 45 = .ok (.aload_n 0, 1) := by decide +kernel
theorem dX2_isBestOfBoth_46 : decode cX2_isBestOfBoth 46 = .ok (.getfield 23, 3) := by decide +kernel
theorem dX2_isBestOfBoth_49 : decode cX2_isBestOfBoth 49 = .ok (.iload_n 2, 1) := by decide +kernel
theorem dX2_isBestOfBoth_50 : decode cX2_isBestOfBoth 50 = .ok (.iaload, 1) := by decide +kernel
theorem dX2_isBestOfBoth_51 : decode cX2_isBestOfBoth 51 = .ok (.if_icmp .ne 7, 3) := by decide +kernel
theorem dX2_isBestOfBoth_54 : decode cX2_isBestOfBoth 54 = .ok (.iconst 1, 1) := by decide +kernel
theorem dX2_isBestOfBoth_55 : decode cX2_isBestOfBoth 55 = .ok (.goto 4, 3) := by decide +kernel
theorem dX2_isBestOfBoth_58 : decode cX2_isBestOfBoth 58 = .ok (.iconst 0, 1) := by decide +kernel
theorem dX2_isBestOfBoth_59 : decode cX2_isBestOfBoth 59 = .ok (.istore 5, 2) := by decide +kernel
theorem dX2_isBestOfBoth_61 : decode cX2_isBestOfBoth 61 = .ok (.iload 5, 2) := by decide +kernel
theorem dX2_isBestOfBoth_63 : decode cX2_isBestOfBoth 63 = .ok (.ifCond .eq 15, 3) := by decide +kernel
theorem dX2_isBestOfBoth_66 : decode cX2_isBestOfBoth 66 = .ok (.aload_n 0, 1) := by decide +kernel
theorem dX2_isBestOfBoth_67 : decode cX2_isBestOfBoth 67 = .ok (.iload 4, 2) := by decide +kernel
theorem dX2_isBestOfBoth_69 : decode cX2_isBestOfBoth 69 = .ok (.iload_n 2, 1) := by decide +kernel
theorem dX2_isBestOfBoth_70 : decode cX2_isBestOfBoth 70 = .ok (.invokevirtual 68, 3) := by decide +kernel
theorem dX2_isBestOfBoth_73 : decode cX2_isBestOfBoth 73 = .ok (.ifCond .eq 5, 3) := by decide +kernel
theorem dX2_isBestOfBoth_76 : decode cX2_isBestOfBoth 76 = .ok (.iconst 0, 1) := by decide +kernel
theorem dX2_isBestOfBoth_77 : decode cX2_isBestOfBoth 77 = .ok (.ireturn, 1) := by decide +kernel
theorem dX2_isBestOfBoth_78 : decode cX2_isBestOfBoth 78 = .ok (.iinc 3 1, 3) := by decide +kernel
theorem dX2_isBestOfBoth_81 : decode cX2_isBestOfBoth 81 = .ok (.goto (-72), 3) := by decide +kernel
theorem dX2_isBestOfBoth_84 : decode cX2_isBestOfBoth 84 = .ok (.iconst 1, 1) := by decide +kernel
theorem dX2_isBestOfBoth_85 : decode cX2_isBestOfBoth 85 = .ok (.ireturn, 1) := by decide +kernel
theorem dX2_placeAfterMixing_0 : decode cX2_placeAfterMixing 0 = .ok (.iconst 0, 1) := by decide +kernel
theorem dX2_placeAfterMixing_1 : decode cX2_placeAfterMixing 1 = .ok (.istore 4, 2) := by decide +kernel
theorem dX2_placeAfterMixing_3 : decode cX2_placeAfterMixing 3 = .ok (.iload 4, 2) := by decide +kernel
theorem dX2_placeAfterMixing_5 : decode cX2_placeAfterMixing 5 = .ok (.aload_n 0, 1) := by decide +kernel
theorem dX2_placeAfterMixing_6 : decode cX2_placeAfterMixing 6 = .ok (.getfield 15, 3) := by decide +kernel
theorem dX2_placeAfterMixing_9 : decode cX2_placeAfterMixing 9 = .ok (.if_icmp .ge 18, 3) := by decide +kernel
theorem dX2_placeAfterMixing_12 : decode cX2_placeAfterMixing 12 = .ok (.aload_n 0, 1) := by decide +kernel
theorem dX2_placeAfterMixing_13 : decode cX2_placeAfterMixing 13 = .ok (.getfield 36, 3) := by decide +kernel
theorem dX2_placeAfterMixing_16 : decode cX2_placeAfterMixing 16 = .ok (.iload 4, 2) := by decide +kernel
theorem dX2_placeAfterMixing_18 : decode cX2_placeAfterMixing 18 = .ok (.iload 4, 2) := by decide +kernel
theorem dX2_placeAfterMixing_20 : decode cX2_placeAfterMixing 20 = .ok (.iastore, 1) := by decide +kernel
theorem dX2_placeAfterMixing_21 : decode cX2_placeAfterMixing 21 = .ok (.iinc 4 1, 3) := by decide +kernel
theorem dX2_placeAfterMixing_24 : decode cX2_placeAfterMixing 24 = .ok (.goto (-21), 3) := by decide +kernel
theorem dX2_placeAfterMixing_27 : decode cX2_placeAfterMixing 27 = .ok (.lload_n 1, 1) := by decide +kernel
theorem dX2_placeAfterMixing_28 : decode cX2_placeAfterMixing 28 = .ok (.lstore 4, 2) := by decide +kernel
theorem dX2_placeAfterMixing_30 : decode cX2_placeAfterMixing 30 = .ok (.aload_n 0, 1) := by decide +kernel
theorem dX2_placeAfterMixing_31 : decode cX2_placeAfterMixing 31 = .ok (.getfield 15, 3) := by decide +kernel
theorem dX2_placeAfterMixing_34 : decode cX2_placeAfterMixing 34 = .ok (.iconst 1, 1) := by decide +kernel
theorem dX2_placeAfterMixing_35 : decode cX2_placeAfterMixing 35 = .ok (.isub, 1) := by decide +kernel
theorem dX2_placeAfterMixing_36 : decode cX2_placeAfterMixing 36 = .ok (.istore 6, 2) := by decide +kernel
theorem dX2_placeAfterMixing_38 : decode cX2_placeAfterMixing 38 = .ok (.iload 6, 2) := by decide +kernel
theorem dX2_placeAfterMixing_40 : decode cX2_placeAfterMixing 40 = .ok (.iconst 1, 1) := by decide +kernel
theorem dX2_placeAfterMixing_41 : decode cX2_placeAfterMixing 41 = .ok (.if_icmp .lt 67, 3) := by decide +kernel
theorem dX2_placeAfterMixing_44 : decode cX2_placeAfterMixing 44 = .ok (.lload 4, 2) := by decide +kernel
theorem dX2_placeAfterMixing_46 : decode cX2_placeAfterMixing 46 = .ok (.ldc2_w 72, 3) := by decide +kernel
theorem dX2_placeAfterMixing_49 : decode cX2_placeAfterMixing 49 = .ok (.lmul, 1) := by decide +kernel
theorem dX2_placeAfterMixing_50 : decode cX2_placeAfterMixing 50 = .ok (.ldc2_w 74, 3) := by decide +kernel
theorem dX2_placeAfterMixing_53 : decode cX2_placeAfterMixing 53 = .ok (.ladd, 1) := by decide +kernel
theorem dX2_placeAfterMixing_54 : decode cX2_placeAfterMixing 54 = .ok (.lstore 4, 2) := by decide +kernel
theorem dX2_placeAfterMixing_56 : decode cX2_placeAfterMixing 56 = .ok (.lload 4, 2) := by decide +kernel
theorem dX2_placeAfterMixing_58 : decode cX2_placeAfterMixing 58 = .ok (.bipush 33, 2) := by decide +kernel
theorem dX2_placeAfterMixing_60 : decode cX2_placeAfterMixing 60 = .ok (.lushr, 1) := by decide +kernel
theorem dX2_placeAfterMixing_61 : decode cX2_placeAfterMixing 61 = .ok (.iload 6, 2) := by decide +kernel
theorem dX2_placeAfterMixing_63 : decode cX2_placeAfterMixing 63 = .ok (.iconst 1, 1) := by decide +kernel
theorem dX2_placeAfterMixing_64 : decode cX2_placeAfterMixing 64 = .ok (.iadd, 1) := by decide +kernel
theorem dX2_placeAfterMixing_65 : decode cX2_placeAfterMixing 65 = .ok (.i2l, 1) := by decide +kernel
theorem dX2_placeAfterMixing_66 : decode cX2_placeAfterMixing 66 = .ok (.lrem, 1) := by decide +kernel
theorem dX2_placeAfterMixing_67 : decode cX2_placeAfterMixing 67 = .ok (.l2i, 1) := by decide +kernel
theorem dX2_placeAfterMixing_68 : decode cX2_placeAfterMixing 68 = .ok (.istore 7, 2) := by decide +kernel
theorem dX2_placeAfterMixing_70 : decode cX2_placeAfterMixing 70 = .ok (.aload_n 0, 1) := by decide +kernel
theorem dX2_placeAfterMixing_71 : decode cX2_placeAfterMixing 71 = .ok (.getfield 36, 3) := by decide +kernel
theorem dX2_placeAfterMixing_74 : decode cX2_placeAfterMixing 74 = .ok (.iload 6, 2) := by decide +kernel
theorem dX2_placeAfterMixing_76 : decode cX2_placeAfterMixing 76 = .ok (.iaload, 1) := by decide +kernel
theorem dX2_placeAfterMixing_77 : decode cX2_placeAfterMixing 77 = .ok (.istore 8, 2) := by decide +kernel
theorem dX2_placeAfterMixing_79 : decode cX2_placeAfterMixing 79 = .ok (.aload_n 0, 1) := by decide +kernel
theorem dX2_placeAfterMixing_80 : decode cX2_placeAfterMixing 80 = .ok (.getfield 36, 3) := by decide +kernel
theorem dX2_placeAfterMixing_83 : decode cX2_placeAfterMixing 83 = .ok (.iload 6, 2) := by decide +kernel
theorem dX2_placeAfterMixing_85 : decode cX2_placeAfterMixing 85 = .ok (.aload_n 0, 1) := by decide +kernel
theorem dX2_placeAfterMixing_86 : decode cX2_placeAfterMixing 86 = .ok (.getfield 36, 3) := by decide +kernel
theorem dX2_placeAfterMixing_89 : decode cX2_placeAfterMixing 89 = .ok (.iload 7, 2) := by decide +kernel
theorem dX2_placeAfterMixing_91 : decode cX2_placeAfterMixing 91 = .ok (.iaload, 1) := by decide +kernel
theorem dX2_placeAfterMixing_92 : decode cX2_placeAfterMixing 92 = .ok (.iastore, 1) := by decide +kernel
theorem dX2_placeAfterMixing_93 : decode cX2_placeAfterMixing 93 = .ok (.aload_n 0, 1) := by decide +kernel
theorem dX2_placeAfterMixing_94 : decode cX2_placeAfterMixing 94 = .ok (.getfield 36, 3) := by decide +kernel
theorem dX2_placeAfterMixing_97 : decode cX2_placeAfterMixing 97 = .ok (.iload 7, 2) := by decide +kernel
theorem dX2_placeAfterMixing_99 : decode cX2_placeAfterMixing 99 = .ok (.iload 8, 2) := by decide +kernel
theorem dX2_placeAfterMixing_101 : decode cX2_placeAfterMixing 101 = .ok (.iastore, 1) := by decide +kernel
theorem dX2_placeAfterMixing_102 : decode cX2_placeAfterMixing 102 = .ok (.iinc 6 (-1), 3) := by decide +kernel
theorem dX2_placeAfterMixing_105 : decode cX2_placeAfterMixing 105 = .ok (.goto (-67), 3) := by decide +kernel
theorem dX2_placeAfterMixing_108 : decode cX2_placeAfterMixing 108 = .ok (.aload_n 0, 1) := by decide +kernel
theorem dX2_placeAfterMixing_109 : decode cX2_placeAfterMixing 109 = .ok (.getfield 36, 3) := by decide +kernel
theorem dX2_placeAfterMixing_112 : decode cX2_placeAfterMixing 112 = .ok (.iload_n 3, 1) := by decide +kernel
theorem dX2_placeAfterMixing_113 : decode cX2_placeAfterMixing 113 = .ok (.iaload, 1) := by decide +kernel
theorem dX2_placeAfterMixing_114 : decode cX2_placeAfterMixing 114 = .ok (.ireturn, 1) := by decide +kernel
set_option maxRecDepth 20000 in
theorem ggX2_partner_X2_nameAt : GoodIn wsX2_partner wsX2_nameAt := goodIn_ca (goodIn_r _ [6, 7, 8, 9, 10, 11, 12, 13, 14, 15, 16, 17, 18] (by decide +kernel) (by decide +kernel)) (goodIn_sub (fun _ h => List.mem_cons_of_mem _ (List.mem_append_right _ h)) (by decide +kernel))
set_option maxRecDepth 20000 in
theorem gX2_partner_X2_nameAt : GoodIn wsX2_partner (wsV RX2 76 RX2 yX2_nameAt wsX2_nameAt) := goodIn_app (goodIn_of _ (by decide +kernel)) ggX2_partner_X2_nameAt
theorem dX2_partner_0 : decode cX2_partner 0 = .ok (.iconst 0, 1) := by decide +kernel
theorem dX2_partner_1 : decode cX2_partner 1 = .ok (.istore 4, 2) := by decide +kernel
theorem dX2_partner_3 : decode cX2_partner 3 = .ok (.iconst 0, 1) := by decide +kernel
theorem dX2_partner_4 : decode cX2_partner 4 = .ok (.istore 5, 2) := by decide +kernel
theorem dX2_partner_6 : decode cX2_partner 6 = .ok (.iload 5, 2) := by decide +kernel
theorem dX2_partner_8 : decode cX2_partner 8 = .ok (.aload_n 0, 1) := by decide +kernel
theorem dX2_partner_9 : decode cX2_partner 9 = .ok (.getfield 15, 3) := by decide +kernel
theorem dX2_partner_12 : decode cX2_partner 12 = .ok (.if_icmp .ge 39, 3) := by decide +kernel
theorem dX2_partner_15 : decode cX2_partner 15 = .ok (.aload_n 0, 1) := by decide +kernel
theorem dX2_partner_16 : decode cX2_partner 16 = .ok (.iload 5, 2) := by decide +kernel
theorem dX2_partner_18 : decode cX2_partner 18 = .ok (.iload_n 1, 1) := by decide +kernel
theorem dX2_partner_19 : decode cX2_partner 19 = .ok (.invokevirtual 76, 3) := by decide +kernel
theorem dX2_partner_22 : decode cX2_partner 22 = .ok (.iload_n 2, 1) := by decide +kernel
theorem dX2_partner_23 : decode cX2_partner 23 = .ok (.if_icmp .ne 22, 3) := by decide +kernel
theorem dX2_partner_26 : decode cX2_partner 26 = .ok (.iload 4, 2) := by decide +kernel
theorem dX2_partner_28 : decode cX2_partner 28 = .ok (.iload_n 3, 1) := by decide +kernel
theorem dX2_partner_29 : decode cX2_partner 29 = .ok (.if_icmp .ne 13, 3) := by decide +kernel
theorem dX2_partner_32 : decode cX2_partner 32 = .ok (.aload_n 0, 1) := by decide +kernel
theorem dX2_partner_33 : decode cX2_partner 33 = .ok (.iload 5, 2) := by decide +kernel
theorem dX2_partner_35 : decode cX2_partner 35 = .ok (.iconst 1, 1) := by decide +kernel
theorem dX2_partner_36 : decode cX2_partner 36 = .ok (.iload_n 1, 1) := by decide +kernel
theorem dX2_partner_37 : decode cX2_partner 37 = .ok (.isub, 1) := by decide +kernel
theorem dX2_partner_38 : decode cX2_partner 38 = .ok (.invokevirtual 76, 3) := by decide +kernel
theorem dX2_partner_41 : decode cX2_partner 41 = .ok (.ireturn, 1) := by decide +kernel
theorem dX2_partner_42 : decode cX2_partner 42 = .ok (.iinc 4 1, 3) := by decide +kernel
theorem dX2_partner_45 : decode cX2_partner 45 = .ok (.iinc 5 1, 3) := by decide +kernel
theorem dX2_partner_48 : decode cX2_partner 48 = .ok (.goto (-42), 3) := by decide +kernel
theorem dX2_partner_51 : decode cX2_partner 51 = .ok (.iconst 0, 1) := by decide +kernel
theorem dX2_partner_52 : decode cX2_partner 52 = .ok (.ireturn, 1) := by decide +kernel
