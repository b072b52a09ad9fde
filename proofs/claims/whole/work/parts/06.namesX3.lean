theorem dX3_init_0 : decode cX3_init 0 = .ok (.aload_n 0, 1) := by decide +kernel
theorem dX3_init_1 : decode cX3_init 1 = .ok (.invokespecial 3, 3) := by decide +kernel
theorem dX3_init_4 : decode cX3_init 4 = .ok (.aload_n 0, 1) := by decide +kernel
theorem dX3_init_5 : decode cX3_init 5 = .ok (.iconst 0, 1) := by decide +kernel
theorem dX3_init_6 : decode cX3_init 6 = .ok (.putfield 9, 3) := by decide +kernel
theorem dX3_init_9 : decode cX3_init 9 = .ok (.aload_n 0, 1) := by decide +kernel
theorem dX3_init_10 : decode cX3_init 10 = .ok (.bipush 8, 2) := by decide +kernel
theorem dX3_init_12 : decode cX3_init 12 = .ok (.newarray .int, 2) := by decide +kernel
theorem dX3_init_14 : decode cX3_init 14 = .ok (.putfield 15, 3) := by decide +kernel
theorem dX3_init_17 : decode cX3_init 17 = .ok (.aload_n 0, 1) := by decide +kernel
theorem dX3_init_18 : decode cX3_init 18 = .ok (.bipush 8, 2) := by decide +kernel
theorem dX3_init_20 : decode cX3_init 20 = .ok (.newarray .int, 2) := by decide +kernel
theorem dX3_init_22 : decode cX3_init 22 = .ok (.putfield 19, 3) := by decide +kernel
theorem dX3_init_25 : decode cX3_init 25 = .ok (.aload_n 0, 1) := by decide +kernel
theorem dX3_init_26 : decode cX3_init 26 = .ok (.iconst 0, 1) := by decide +kernel
theorem dX3_init_27 : decode cX3_init 27 = .ok (.putfield 22, 3) := by decide +kernel
theorem dX3_init_30 : decode cX3_init 30 = .ok (.aload_n 0, 1) := by decide +kernel
theorem dX3_init_31 : decode cX3_init 31 = .ok (.iconst 0, 1) := by decide +kernel
theorem dX3_init_32 : decode cX3_init 32 = .ok (.putfield 26, 3) := by decide +kernel
theorem dX3_init_35 : decode cX3_init 35 = .ok (.aload_n 0, 1) := by decide +kernel
theorem dX3_init_36 : decode cX3_init 36 = .ok (.lconst 0, 1) := by decide +kernel
theorem dX3_init_37 : decode cX3_init 37 = .ok (.putfield 29, 3) := by decide +kernel
theorem dX3_init_40 : decode cX3_init 40 = .ok (.aload_n 0, 1) := by decide +kernel
theorem dX3_init_41 : decode cX3_init 41 = .ok (.lconst 0, 1) := by decide +kernel
theorem dX3_init_42 : decode cX3_init 42 = .ok (.putfield 33, 3) := by decide +kernel
theorem dX3_init_45 : decode cX3_init 45 = .ok (.aload_n 0, 1) := by decide +kernel
theorem dX3_init_46 : decode cX3_init 46 = .ok (.iload_n 1, 1) := by decide +kernel
theorem dX3_init_47 : decode cX3_init 47 = .ok (.putfield 36, 3) := by decide +kernel
theorem dX3_init_50 : decode cX3_init 50 = .ok (.return_, 1) := by decide +kernel
set_option maxRecDepth 20000 in
theorem ggX3_addToken_X3_hasToken : GoodIn wsX3_addToken wsX3_hasToken := goodIn_ca (goodIn_r _ [8, 1, 2, 3, 9, 10, 11, 12, 13, 14, 15, 16] (by decide +kernel) (by decide +kernel)) (goodIn_sub (fun _ h => List.mem_cons_of_mem _ (List.mem_append_right _ h)) (by decide +kernel))
set_option maxRecDepth 20000 in
theorem gX3_addToken_X3_hasToken : GoodIn wsX3_addToken (wsV RX3 39 RX3 yX3_hasToken wsX3_hasToken) := goodIn_app (goodIn_of _ (by decide +kernel)) ggX3_addToken_X3_hasToken
theorem dX3_addToken_0 : decode cX3_addToken 0 = .ok (.aload_n 0, 1) := by decide +kernel
theorem dX3_addToken_1 : decode cX3_addToken 1 = .ok (.getfield 22, 3) := by decide +kernel
theorem dX3_addToken_4 : decode cX3_addToken 4 = .ok (.bipush 8, 2) := by decide +kernel
theorem dX3_addToken_6 : decode cX3_addToken 6 = .ok (.if_icmp .ge 12, 3) := by decide +kernel
theorem dX3_addToken_9 : decode cX3_addToken 9 = .ok (.aload_n 0, 1) := by decide +kernel
theorem dX3_addToken_10 : decode cX3_addToken 10 = .ok (.iload_n 1, 1) := by decide +kernel
theorem dX3_addToken_11 : decode cX3_addToken 11 = .ok (.iload_n 2, 1) := by decide +kernel
theorem dX3_addToken_12 : decode cX3_addToken 12 = .ok (.invokevirtual 39, 3) := by decide +kernel
theorem dX3_addToken_15 : decode cX3_addToken 15 = .ok (.ifCond .eq 4, 3) := by decide +kernel
theorem dX3_addToken_18 : decode cX3_addToken 18 = .ok (.return_, 1) := by decide +kernel
theorem dX3_addToken_19 : decode cX3_addToken 19 = .ok (.aload_n 0, 1) := by decide +kernel
theorem dX3_addToken_20 : decode cX3_addToken 20 = .ok (.getfield 15, 3) := by decide +kernel
theorem dX3_addToken_23 : decode cX3_addToken 23 = .ok (.aload_n 0, 1) := by decide +kernel
theorem dX3_addToken_24 : decode cX3_addToken 24 = .ok (.getfield 22, 3) := by decide +kernel
theorem dX3_addToken_27 : decode cX3_addToken 27 = .ok (.iload_n 1, 1) := by decide +kernel
theorem dX3_addToken_28 : decode cX3_addToken 28 = .ok (.iastore, 1) := by decide +kernel
theorem dX3_addToken_29 : decode cX3_addToken 29 = .ok (.aload_n 0, 1) := by decide +kernel
theorem dX3_addToken_30 : decode cX3_addToken 30 = .ok (.getfield 19, 3) := by decide +kernel
theorem dX3_addToken_33 : decode cX3_addToken 33 = .ok (.aload_n 0, 1) := by decide +kernel
theorem dX3_addToken_34 : decode cX3_addToken 34 = .ok (.getfield 22, 3) := by decide +kernel
theorem dX3_addToken_37 : decode cX3_addToken 37 = .ok (.iload_n 2, 1) := by decide +kernel
theorem dX3_addToken_38 : decode cX3_addToken 38 = .ok (.iastore, 1) := by decide +kernel
theorem dX3_addToken_39 : decode cX3_addToken 39 = .ok (.aload_n 0, 1) := by decide +kernel
theorem dX3_addToken_40 : decode cX3_addToken 40 = .ok (.dup, 1) := by decide +kernel
theorem dX3_addToken_41 : decode cX3_addToken 41 = .ok (.getfield 22, 3) := by decide +kernel
theorem dX3_addToken_44 : decode cX3_addToken 44 = .ok (.iconst 1, 1) := by decide +kernel
theorem dX3_addToken_45 : decode cX3_addToken 45 = .ok (.iadd, 1) := by decide +kernel
theorem dX3_addToken_46 : decode cX3_addToken 46 = .ok (.putfield 22, 3) := by decide +kernel
theorem dX3_addToken_49 : decode cX3_addToken 49 = .ok (.return_, 1) := by decide +kernel
theorem dX3_hasToken_0 : decode cX3_hasToken 0 = .ok (.iconst 0, 1) := by decide +kernel
theorem dX3_hasToken_1 : decode cX3_hasToken 1 = .ok (.istore_n 3, 1) := by decide +kernel
theorem dX3_hasToken_2 : decode cX3_hasToken 2 = .ok (.iload_n 3, 1) := by decide +kernel
theorem dX3_hasToken_3 : decode cX3_hasToken 3 = .ok (.aload_n 0, 1) := by decide +kernel
theorem dX3_hasToken_4 : decode cX3_hasToken 4 = .ok (.getfield 22, 3) := by decide +kernel
theorem dX3_hasToken_7 : decode cX3_hasToken 7 = .ok (.if_icmp .ge 31, 3) := by decide +kernel
theorem dX3_hasToken_10 : decode cX3_hasToken 10 = .ok (.aload_n 0, 1) := by decide +kernel
theorem dX3_hasToken_11 : decode cX3_hasToken 11 = .ok (.getfield 15, 3) := by decide +kernel
theorem dX3_hasToken_14 : decode cX3_hasToken 14 = .ok (.iload_n 3, 1) := by decide +kernel
theorem dX3_hasToken_15 : decode cX3_hasToken 15 = .ok (.iaload, 1) := by decide +kernel
theorem dX3_hasToken_16 : decode cX3_hasToken 16 = .ok (.iload_n 1, 1) := by decide +kernel
theorem dX3_hasToken_17 : decode cX3_hasToken 17 = .ok (.if_icmp .ne 15, 3) := by decide +kernel
theorem dX3_hasToken_20 : decode cX3_hasToken 20 = .ok (.aload_n 0, 1) := by decide +kernel
theorem dX3_hasToken_21 : decode cX3_hasToken 21 = .ok (.getfield 19, 3) := by decide +kernel
theorem dX3_hasToken_24 : decode cX3_hasToken 24 = .ok (.iload_n 3, 1) := by decide +kernel
theorem dX3_hasToken_25 : decode cX3_hasToken 25 = .ok (.iaload, 1) := by decide +kernel
theorem dX3_hasToken_26 : decode cX3_hasToken 26 = .ok (.iload_n 2, 1) := by decide +kernel
theorem dX3_hasToken_27 : decode cX3_hasToken 27 = .ok (.if_icmp .ne 5, 3) := by decide +kernel
theorem dX3_hasToken_30 : decode cX3_hasToken 30 = .ok (.iconst 1, 1) := by decide +kernel
theorem dX3_hasToken_31 : decode cX3_hasToken 31 = .ok (.ireturn, 1) := by decide +kernel
theorem dX3_hasToken_32 : decode cX3_hasToken 32 = .ok (.iinc 3 1, 3) := by decide +kernel
theorem dX3_hasToken_35 : decode cX3_hasToken 35 = .ok (.goto (-33), 3) := by decide +kernel
theorem dX3_hasToken_38 : decode cX3_hasToken 38 = .ok (.iconst 0, 1) := by decide +kernel
theorem dX3_hasToken_39 : decode cX3_hasToken 39 = .ok (.ireturn, 1) := by decide +kernel
theorem dX3_setDates_0 : decode cX3_setDates 0 = .ok (.aload_n 0, 1) := by decide +kernel
theorem dX3_setDates_1 : decode cX3_setDates 1 = .ok (.iconst 1, 1) := by decide +kernel
theorem dX3_setDates_2 : decode cX3_setDates 2 = .ok (.putfield 26, 3) := by decide +kernel
theorem dX3_setDates_5 : decode cX3_setDates 5 = .ok (.aload_n 0, 1) := by decide +kernel
theorem dX3_setDates_6 : decode cX3_setDates 6 = .ok (.lload_n 1, 1) := by decide +kernel
theorem dX3_setDates_7 : decode cX3_setDates 7 = .ok (.putfield 29, 3) := by decide +kernel
theorem dX3_setDates_10 : decode cX3_setDates 10 = .ok (.aload_n 0, 1) := by decide +kernel
theorem dX3_setDates_11 : decode cX3_setDates 11 = .ok (.lload_n 3, 1) := by decide +kernel
theorem dX3_setDates_12 : decode cX3_setDates 12 = .ok (.putfield 33, 3) := by decide +kernel
theorem dX3_setDates_15 : decode cX3_setDates 15 = .ok (.return_, 1) := by decide +kernel
theorem dX3_mayPair_0 : decode cX3_mayPair 0 = .ok (.aload_n 0, 1) := by decide +kernel
theorem dX3_mayPair_1 : decode cX3_mayPair 1 = .ok (.getfield 36, 3) := by decide +kernel
theorem dX3_mayPair_4 : decode cX3_mayPair 4 = .ok (.iload_n 1, 1) := by decide +kernel
theorem dX3_mayPair_5 : decode cX3_mayPair 5 = .ok (.if_icmp .ne 21, 3) := by decide +kernel
theorem dX3_mayPair_8 : decode cX3_mayPair 8 = .ok (.aload_n 0, 1) := by decide +kernel
theorem dX3_mayPair_9 : decode cX3_mayPair 9 = .ok (.getfield 22, 3) := by decide +kernel
theorem dX3_mayPair_12 : decode cX3_mayPair 12 = .ok (.ifCond .le 14, 3) := by decide +kernel
theorem dX3_mayPair_15 : decode cX3_mayPair 15 = .ok (.aload_n 0, 1) := by decide +kernel
theorem dX3_mayPair_16 : decode cX3_mayPair 16 = .ok (.getfield 9, 3) := by decide +kernel
theorem dX3_mayPair_19 : decode cX3_mayPair 19 = .ok (.ifCond .ne 7, 3) := by decide +kernel
theorem dX3_mayPair_22 : decode cX3_mayPair 22 = .ok (.iconst 1, 1) := by decide +kernel
theorem dX3_mayPair_23 : decode cX3_mayPair 23 = .ok (.goto 4, 3) := by decide +kernel
theorem dX3_mayPair_26 : decode cX3_mayPair 26 = .ok (.iconst 0, 1) := by decide +kernel
theorem dX3_mayPair_27 : decode cX3_mayPair 27 = .ok (.ireturn, 1) := by decide +kernel
theorem dX3_mayJoin_0 : decode cX3_mayJoin 0 = .ok (.aload_n 0, 1) := by decide +kernel
theorem dX3_mayJoin_1 : decode cX3_mayJoin 1 = .ok (.getfield 36, 3) := by decide +kernel
theorem dX3_mayJoin_4 : decode cX3_mayJoin 4 = .ok (.iload_n 1, 1) := by decide +kernel
theorem dX3_mayJoin_5 : decode cX3_mayJoin 5 = .ok (.if_icmp .ne 14, 3) := by decide +kernel
theorem dX3_mayJoin_8 : decode cX3_mayJoin 8 = .ok (.aload_n 0, 1) := by decide +kernel
theorem dX3_mayJoin_9 : decode cX3_mayJoin 9 = .ok (.getfield 9, 3) := by decide +kernel
theorem dX3_mayJoin_12 : decode cX3_mayJoin 12 = .ok (.ifCond .ne 7, 3) := by decide +kernel
theorem dX3_mayJoin_15 : decode cX3_mayJoin 15 = .ok (.iconst 1, 1) := by decide +kernel
theorem dX3_mayJoin_16 : decode cX3_mayJoin 16 = .ok (.goto 4, 3) := by decide +kernel
theorem dX3_mayJoin_19 : decode cX3_mayJoin 19 = .ok (.iconst 0, 1) := by decide +kernel
theorem dX3_mayJoin_20 : decode cX3_mayJoin 20 = .ok (.ireturn, 1) := by decide +kernel
theorem dX3_weightOfAll_0 : decode cX3_weightOfAll 0 = .ok (.lconst 0, 1) := by decide +kernel
theorem dX3_weightOfAll_1 : decode cX3_weightOfAll 1 = .ok (.lstore_n 2, 1) := by decide +kernel
theorem dX3_weightOfAll_2 : decode cX3_weightOfAll 2 = .ok (.iconst 0, 1) := by decide +kernel
theorem dX3_weightOfAll_3 : decode cX3_weightOfAll 3 = .ok (.istore 4, 2) := by decide +kernel
theorem dX3_weightOfAll_5 : decode cX3_weightOfAll 5 = .ok (.iload 4, 2) := by decide +kernel
theorem dX3_weightOfAll_7 : decode cX3_weightOfAll 7 = .ok (.aload_n 0, 1) := by decide +kernel
theorem dX3_weightOfAll_8 : decode cX3_weightOfAll 8 = .ok (.getfield 22, 3) := by decide +kernel
theorem dX3_weightOfAll_11 : decode cX3_weightOfAll 11 = .ok (.if_icmp .ge 21, 3) := by decide +kernel
theorem dX3_weightOfAll_14 : decode cX3_weightOfAll 14 = .ok (.lload_n 2, 1) := by decide +kernel
theorem dX3_weightOfAll_15 : decode cX3_weightOfAll 15 = .ok (.aload_n 1, 1) := by decide +kernel
theorem dX3_weightOfAll_16 : decode cX3_weightOfAll 16 = .ok (.aload_n 0, 1) := by decide +kernel
theorem dX3_weightOfAll_17 : decode cX3_weightOfAll 17 = .ok (.getfield 19, 3) := by decide +kernel
theorem dX3_weightOfAll_20 : decode cX3_weightOfAll 20 = .ok (.iload 4, 2) := by decide +kernel
theorem dX3_weightOfAll_22 : decode cX3_weightOfAll 22 = .ok (.iaload, 1) := by decide +kernel
theorem dX3_weightOfAll_23 : decode cX3_weightOfAll 23 = .ok (.laload, 1) := by decide +kernel
theorem dX3_weightOfAll_24 : decode cX3_weightOfAll 24 = .ok (.ladd, 1) := by decide +kernel
theorem dX3_weightOfAll_25 : decode cX3_weightOfAll 25 = .ok (.lstore_n 2, 1) := by decide +kernel
theorem dX3_weightOfAll_26 : decode cX3_weightOfAll 26 = .ok (.iinc 4 1, 3) := by decide +kernel
theorem dX3_weightOfAll_29 : decode cX3_weightOfAll 29 = .ok (.goto (-24), 3) := by decide +kernel
theorem dX3_weightOfAll_32 : decode cX3_weightOfAll 32 = .ok (.lload_n 2, 1) := by decide +kernel
theorem dX3_weightOfAll_33 : decode cX3_weightOfAll 33 = .ok (.lreturn, 1) := by decide +kernel
set_option maxRecDepth 20000 in
theorem ggX3_weightOfShared_X3_hasToken : GoodIn wsX3_weightOfShared wsX3_hasToken := goodIn_ca (goodIn_r _ [8, 1, 2, 3, 9, 10, 11, 12, 13, 14, 15, 16] (by decide +kernel) (by decide +kernel)) (goodIn_sub (fun _ h => List.mem_cons_of_mem _ (List.mem_append_right _ h)) (by decide +kernel))
set_option maxRecDepth 20000 in
theorem gX3_weightOfShared_X3_hasToken : GoodIn wsX3_weightOfShared (wsV RX3 39 RX3 yX3_hasToken wsX3_hasToken) := goodIn_app (goodIn_of _ (by decide +kernel)) ggX3_weightOfShared_X3_hasToken
theorem dX3_weightOfShared_0 : decode cX3_weightOfShared 0 = .ok (.lconst 0, 1) := by decide +kernel
theorem dX3_weightOfShared_1 : decode cX3_weightOfShared 1 = .ok (.lstore_n 3, 1) := by decide +kernel
theorem dX3_weightOfShared_2 : decode cX3_weightOfShared 2 = .ok (.iconst 0, 1) := by decide +kernel
theorem dX3_weightOfShared_3 : decode cX3_weightOfShared 3 = .ok (.istore 5, 2) := by decide +kernel
theorem dX3_weightOfShared_5 : decode cX3_weightOfShared 5 = .ok (.iload 5, 2) := by decide +kernel
theorem dX3_weightOfShared_7 : decode cX3_weightOfShared 7 = .ok (.aload_n 0, 1) := by decide +kernel
theorem dX3_weightOfShared_8 : decode cX3_weightOfShared 8 = .ok (.getfield 22, 3) := by decide +kernel
theorem dX3_weightOfShared_11 : decode cX3_weightOfShared 11 = .ok (.if_icmp .ge 42, 3) := by decide +kernel
theorem dX3_weightOfShared_14 : decode cX3_weightOfShared 14 = .ok (.aload_n 1, 1) := by decide +kernel
theorem dX3_weightOfShared_15 : decode cX3_weightOfShared 15 = .ok (.aload_n 0, 1) := by decide +kernel
theorem dX3_weightOfShared_16 : decode cX3_weightOfShared 16 = .ok (.getfield 15, 3) := by decide +kernel
theorem dX3_weightOfShared_19 : decode cX3_weightOfShared 19 = .ok (.iload 5, 2) := by decide +kernel
theorem dX3_weightOfShared_21 : decode cX3_weightOfShared 21 = .ok (.iaload, 1) := by decide +kernel
theorem dX3_weightOfShared_22 : decode cX3_weightOfShared 22 = .ok (.aload_n 0, 1) := by decide +kernel
theorem dX3_weightOfShared_23 : decode cX3_weightOfShared 23 = .ok (.getfield 19, 3) := by decide +kernel
theorem dX3_weightOfShared_26 : decode cX3_weightOfShared 26 = .ok (.iload 5, 2) := by decide +kernel
theorem dX3_weightOfShared_28 : decode cX3_weightOfShared 28 = .ok (.iaload, 1) := by decide +kernel
theorem dX3_weightOfShared_29 : decode cX3_weightOfShared 29 = .ok (.invokevirtual 39, 3) := by decide +kernel
theorem dX3_weightOfShared_32 : decode cX3_weightOfShared 32 = .ok (.ifCond .eq 15, 3) := by decide +kernel
theorem dX3_weightOfShared_35 : decode cX3_weightOfShared 35 = .ok (.lload_n 3, 1) := by decide +kernel
theorem dX3_weightOfShared_36 : decode cX3_weightOfShared 36 = .ok (.aload_n 2, 1) := by decide +kernel
theorem dX3_weightOfShared_37 : decode cX3_weightOfShared 37 = .ok (.aload_n 0, 1) := by decide +kernel
theorem dX3_weightOfShared_38 : decode cX3_weightOfShared 38 = .ok (.getfield 19, 3) := by decide +kernel
theorem dX3_weightOfShared_41 : decode cX3_weightOfShared 41 = .ok (.iload 5, 2) := by decide +kernel
theorem dX3_weightOfShared_43 : decode cX3_weightOfShared 43 = .ok (.iaload, 1) := by decide +kernel
theorem dX3_weightOfShared_44 : decode cX3_weightOfShared 44 = .ok (.laload, 1) := by decide +kernel
theorem dX3_weightOfShared_45 : decode cX3_weightOfShared 45 = .ok (.ladd, 1) := by decide +kernel
theorem dX3_weightOfShared_46 : decode cX3_weightOfShared 46 = .ok (.lstore_n 3, 1) := by decide +kernel
theorem dX3_weightOfShared_47 : decode cX3_weightOfShared 47 = .ok (.iinc 5 1, 3) := by decide +kernel
theorem dX3_weightOfShared_50 : decode cX3_weightOfShared 50 = .ok (.goto (-45), 3) := by decide +kernel
theorem dX3_weightOfShared_53 : decode cX3_weightOfShared 53 = .ok (.lload_n 3, 1) := by decide +kernel
theorem dX3_weightOfShared_54 : decode cX3_weightOfShared 54 = .ok (.lreturn, 1) := by decide +kernel
theorem dX3_bothDated_0 : decode cX3_bothDated 0 = .ok (.aload_n 0, 1) := by decide +kernel
theorem dX3_bothDated_1 : decode cX3_bothDated 1 = .ok (.getfield 26, 3) := by decide +kernel
theorem dX3_bothDated_4 : decode cX3_bothDated 4 = .ok (.ifCond .eq 14, 3) := by decide +kernel
theorem dX3_bothDated_7 : decode cX3_bothDated 7 = .ok (.aload_n 1, 1) := by decide +kernel
theorem dX3_bothDated_8 : decode cX3_bothDated 8 = .ok (.getfield 26, 3) := by decide +kernel
theorem dX3_bothDated_11 : decode cX3_bothDated 11 = .ok (.ifCond .eq 7, 3) := by decide +kernel
theorem dX3_bothDated_14 : decode cX3_bothDated 14 = .ok (.iconst 1, 1) := by decide +kernel
theorem dX3_bothDated_15 : decode cX3_bothDated 15 = .ok (.goto 4, 3) := by decide +kernel
theorem dX3_bothDated_18 : decode cX3_bothDated 18 = .ok (.iconst 0, 1) := by decide +kernel
theorem dX3_bothDated_19 : decode cX3_bothDated 19 = .ok (.ireturn, 1) := by decide +kernel
set_option maxRecDepth 20000 in
theorem ggX3_sharesDay_X3_bothDated : GoodIn wsX3_sharesDay wsX3_bothDated := goodIn_r _ [7, 8, 9, 10, 11, 12, 13, 14, 15, 16] (by decide +kernel) (by decide +kernel)
set_option maxRecDepth 20000 in
theorem gX3_sharesDay_X3_bothDated : GoodIn wsX3_sharesDay (wsV RX3 43 RX3 yX3_bothDated wsX3_bothDated) := goodIn_app (goodIn_of _ (by decide +kernel)) ggX3_sharesDay_X3_bothDated
theorem dX3_sharesDay_0 : decode cX3_sharesDay 0 = .ok (.aload_n 0, 1) := by decide +kernel
theorem dX3_sharesDay_1 : decode cX3_sharesDay 1 = .ok (.aload_n 1, 1) := by decide +kernel
theorem dX3_sharesDay_2 : decode cX3_sharesDay 2 = .ok (.invokevirtual 43, 3) := by decide +kernel
theorem dX3_sharesDay_5 : decode cX3_sharesDay 5 = .ok (.ifCond .eq 31, 3) := by decide +kernel
theorem dX3_sharesDay_8 : decode cX3_sharesDay 8 = .ok (.aload_n 0, 1) := by decide +kernel
theorem dX3_sharesDay_9 : decode cX3_sharesDay 9 = .ok (.getfield 29, 3) := by decide +kernel
theorem dX3_sharesDay_12 : decode cX3_sharesDay 12 = .ok (.aload_n 1, 1) := by decide +kernel
theorem dX3_sharesDay_13 : decode cX3_sharesDay 13 = .ok (.getfield 33, 3) := by decide +kernel
theorem dX3_sharesDay_16 : decode cX3_sharesDay 16 = .ok (.lcmp, 1) := by decide +kernel
theorem dX3_sharesDay_17 : decode cX3_sharesDay 17 = .ok (.ifCond .gt 19, 3) := by decide +kernel
theorem dX3_sharesDay_20 : decode cX3_sharesDay 20 = .ok (.aload_n 1, 1) := by decide +kernel
theorem dX3_sharesDay_21 : decode cX3_sharesDay 21 = .ok (.getfield 29, 3) := by decide +kernel
theorem dX3_sharesDay_24 : decode cX3_sharesDay 24 = .ok (.aload_n 0, 1) := by decide +kernel
theorem dX3_sharesDay_25 : decode cX3_sharesDay 25 = .ok (.getfield 33, 3) := by decide +kernel
theorem dX3_sharesDay_28 : decode cX3_sharesDay 28 = .ok (.lcmp, 1) := by decide +kernel
theorem dX3_sharesDay_29 : decode cX3_sharesDay 29 = .ok (.ifCond .gt 7, 3) := by decide +kernel
theorem dX3_sharesDay_32 : decode cX3_sharesDay 32 = .ok (.iconst 1, 1) := by decide +kernel
theorem dX3_sharesDay_33 : decode cX3_sharesDay 33 = .ok (.goto 4, 3) := by decide +kernel
theorem dX3_sharesDay_36 : decode cX3_sharesDay 36 = .ok (.iconst 0, 1) := by decide +kernel
theorem dX3_sharesDay_37 : decode cX3_sharesDay 37 = .ok (.ireturn, 1) := by decide +kernel
