theorem dX0_init_0 : decode cX0_init 0 = .ok (.aload_n 0, 1) := by decide +kernel
theorem dX0_init_1 : decode cX0_init 1 = .ok (.invokespecial 3, 3) := by decide +kernel
theorem dX0_init_4 : decode cX0_init 4 = .ok (.aload_n 0, 1) := by decide +kernel
theorem dX0_init_5 : decode cX0_init 5 = .ok (.lconst 0, 1) := by decide +kernel
theorem dX0_init_6 : decode cX0_init 6 = .ok (.putfield 9, 3) := by decide +kernel
theorem dX0_init_9 : decode cX0_init 9 = .ok (.aload_n 0, 1) := by decide +kernel
theorem dX0_init_10 : decode cX0_init 10 = .ok (.lconst 0, 1) := by decide +kernel
theorem dX0_init_11 : decode cX0_init 11 = .ok (.putfield 15, 3) := by decide +kernel
theorem dX0_init_14 : decode cX0_init 14 = .ok (.return_, 1) := by decide +kernel
set_option maxRecDepth 20000 in
theorem ggX0_measure_X3_weightOfShared : GoodIn wsX0_measure wsX3_weightOfShared := goodIn_ca (goodIn_r _ [7, 8, 9, 10, 11, 12, 13, 6, 14, 33, 34, 35, 36, 37, 38, 39, 40] (by decide +kernel) (by decide +kernel)) (goodIn_sub (fun _ h => List.mem_cons_of_mem _ (List.mem_append_right _ h)) (by decide +kernel))
set_option maxRecDepth 20000 in
theorem gX0_measure_X3_weightOfShared : GoodIn wsX0_measure (wsV RX0 18 RX3 yX3_weightOfShared wsX3_weightOfShared) := goodIn_app (goodIn_of _ (by decide +kernel)) ggX0_measure_X3_weightOfShared
set_option maxRecDepth 20000 in
theorem ggX0_measure_X3_weightOfAll : GoodIn wsX0_measure wsX3_weightOfAll := goodIn_ca (goodIn_r _ [18, 8, 10, 33, 34, 35, 36, 37, 38, 39, 40] (by decide +kernel) (by decide +kernel)) (goodIn_sub (fun _ h => List.mem_cons_of_mem _ (List.mem_append_right _ h)) (by decide +kernel))
set_option maxRecDepth 20000 in
theorem gX0_measure_X3_weightOfAll : GoodIn wsX0_measure (wsV RX0 24 RX3 yX3_weightOfAll wsX3_weightOfAll) := goodIn_app (goodIn_of _ (by decide +kernel)) ggX0_measure_X3_weightOfAll
set_option maxRecDepth 20000 in
theorem ggX0_measure_X3_bothDated : GoodIn wsX0_measure wsX3_bothDated := goodIn_r _ [22, 23, 33, 34, 35, 36, 37, 38, 39, 40] (by decide +kernel) (by decide +kernel)
set_option maxRecDepth 20000 in
theorem gX0_measure_X3_bothDated : GoodIn wsX0_measure (wsV RX0 28 RX3 yX3_bothDated wsX3_bothDated) := goodIn_app (goodIn_of _ (by decide +kernel)) ggX0_measure_X3_bothDated
set_option maxRecDepth 20000 in
theorem ggX0_measure_X3_sharesDay : GoodIn wsX0_measure wsX3_sharesDay := goodIn_r _ [27, 28, 29, 30, 20, 21, 6, 22, 23, 33, 34, 35, 36, 37, 38, 39, 40] (by decide +kernel) (by decide +kernel)
set_option maxRecDepth 20000 in
theorem gX0_measure_X3_sharesDay : GoodIn wsX0_measure (wsV RX0 32 RX3 yX3_sharesDay wsX3_sharesDay) := goodIn_app (goodIn_of _ (by decide +kernel)) ggX0_measure_X3_sharesDay
theorem dX0_measure_0 : decode cX0_measure 0 = .ok (.aload_n 1, 1) := by decide +kernel
theorem dX0_measure_1 : decode cX0_measure 1 = .ok (.aload_n 2, 1) := by decide +kernel
theorem dX0_measure_2 : decode cX0_measure 2 = .ok (.aload_n 3, 1) := by decide +kernel
theorem dX0_measure_3 : decode cX0_measure 3 = .ok (.invokevirtual 18, 3) := by decide +kernel
theorem dX0_measure_6 : decode cX0_measure 6 = .ok (.lstore 4, 2) := by decide +kernel
theorem dX0_measure_8 : decode cX0_measure 8 = .ok (.aload_n 0, 1) := by decide +kernel
theorem dX0_measure_9 : decode cX0_measure 9 = .ok (.lload 4, 2) := by decide +kernel
theorem dX0_measure_11 : decode cX0_measure 11 = .ok (.putfield 9, 3) := by decide +kernel
theorem dX0_measure_14 : decode cX0_measure 14 = .ok (.aload_n 0, 1) := by decide +kernel
theorem dX0_measure_15 : decode cX0_measure 15 = .ok (.aload_n 1, 1) := by decide +kernel
theorem dX0_measure_16 : decode cX0_measure 16 = .ok (.aload_n 3, 1) := by decide +kernel
theorem dX0_measure_17 : decode cX0_measure 17 = .ok (.invokevirtual 24, 3) := by decide +kernel
theorem dX0_measure_20 : decode cX0_measure 20 = .ok (.aload_n 2, 1) := by decide +kernel
theorem dX0_measure_21 : decode cX0_measure 21 = .ok (.aload_n 3, 1) := by decide +kernel
theorem dX0_measure_22 : decode cX0_measure 22 = .ok (.invokevirtual 24, 3) := by decide +kernel
theorem dX0_measure_25 : decode cX0_measure 25 = .ok (.ladd, 1) := by decide +kernel
theorem dX0_measure_26 : decode cX0_measure 26 = .ok (.lload 4, 2) := by decide +kernel
theorem dX0_measure_28 : decode cX0_measure 28 = .ok (.lsub, 1) := by decide +kernel
theorem dX0_measure_29 : decode cX0_measure 29 = .ok (.putfield 15, 3) := by decide +kernel
theorem dX0_measure_32 : decode cX0_measure 32 = .ok (.aload_n 1, 1) := by decide +kernel
theorem dX0_measure_33 : decode cX0_measure 33 = .ok (.aload_n 2, 1) := by decide +kernel
theorem dX0_measure_34 : decode cX0_measure 34 = .ok (.invokevirtual 28, 3) := by decide +kernel
theorem dX0_measure_37 : decode cX0_measure 37 = .ok (.ifCond .eq 15, 3) := by decide +kernel
theorem dX0_measure_40 : decode cX0_measure 40 = .ok (.aload_n 0, 1) := by decide +kernel
theorem dX0_measure_41 : decode cX0_measure 41 = .ok (.dup, 1) := by decide +kernel
theorem dX0_measure_42 : decode cX0_measure 42 = .ok (.getfield 15, 3) := by decide +kernel
theorem dX0_measure_45 : decode cX0_measure 45 = .ok (.aload_n 3, 1) := by decide +kernel
theorem dX0_measure_46 : decode cX0_measure 46 = .ok (.iconst 3, 1) := by decide +kernel
theorem dX0_measure_47 : decode cX0_measure 47 = .ok (.laload, 1) := by decide +kernel
theorem dX0_measure_48 : decode cX0_measure 48 = .ok (.ladd, 1) := by decide +kernel
theorem dX0_measure_49 : decode cX0_measure 49 = .ok (.putfield 15, 3) := by decide +kernel
theorem dX0_measure_52 : decode cX0_measure 52 = .ok (.aload_n 1, 1) := by decide +kernel
theorem dX0_measure_53 : decode cX0_measure 53 = .ok (.aload_n 2, 1) := by decide +kernel
theorem dX0_measure_54 : decode cX0_measure 54 = .ok (.invokevirtual 32, 3) := by decide +kernel
theorem dX0_measure_57 : decode cX0_measure 57 = .ok (.ifCond .eq 15, 3) := by decide +kernel
theorem dX0_measure_60 : decode cX0_measure 60 = .ok (.aload_n 0, 1) := by decide +kernel
theorem dX0_measure_61 : decode cX0_measure 61 = .ok (.dup, 1) := by decide +kernel
theorem dX0_measure_62 : decode cX0_measure 62 = .ok (.getfield 9, 3) := by decide +kernel
theorem dX0_measure_65 : decode cX0_measure 65 = .ok (.aload_n 3, 1) := by decide +kernel
theorem dX0_measure_66 : decode cX0_measure 66 = .ok (.iconst 3, 1) := by decide +kernel
theorem dX0_measure_67 : decode cX0_measure 67 = .ok (.laload, 1) := by decide +kernel
theorem dX0_measure_68 : decode cX0_measure 68 = .ok (.ladd, 1) := by decide +kernel
theorem dX0_measure_69 : decode cX0_measure 69 = .ok (.putfield 9, 3) := by decide +kernel
theorem dX0_measure_72 : decode cX0_measure 72 = .ok (.return_, 1) := by decide +kernel
theorem dX0_exists_0 : decode cX0_exists 0 = .ok (.aload_n 0, 1) := by decide +kernel
theorem dX0_exists_1 : decode cX0_exists 1 = .ok (.getfield 15, 3) := by decide +kernel
theorem dX0_exists_4 : decode cX0_exists 4 = .ok (.lconst 0, 1) := by decide +kernel
theorem dX0_exists_5 : decode cX0_exists 5 = .ok (.lcmp, 1) := by decide +kernel
theorem dX0_exists_6 : decode cX0_exists 6 = .ok (.ifCond .le 7, 3) := by decide +kernel
theorem dX0_exists_9 : decode cX0_exists 9 = .ok (.iconst 1, 1) := by decide +kernel
theorem dX0_exists_10 : decode cX0_exists 10 = .ok (.goto 4, 3) := by decide +kernel
theorem dX0_exists_13 : decode cX0_exists 13 = .ok (.iconst 0, 1) := by decide +kernel
theorem dX0_exists_14 : decode cX0_exists 14 = .ok (.ireturn, 1) := by decide +kernel
theorem dX0_isHalfAtLeast_0 : decode cX0_isHalfAtLeast 0 = .ok (.ldc2_w 35, 3) := by decide +kernel
theorem dX0_isHalfAtLeast_3 : decode cX0_isHalfAtLeast 3 = .ok (.aload_n 0, 1) := by decide +kernel
theorem dX0_isHalfAtLeast_4 : decode cX0_isHalfAtLeast 4 = .ok (.getfield 9, 3) := by decide +kernel
theorem dX0_isHalfAtLeast_7 : decode cX0_isHalfAtLeast 7 = .ok (.lmul, 1) := by decide +kernel
theorem dX0_isHalfAtLeast_8 : decode cX0_isHalfAtLeast 8 = .ok (.aload_n 0, 1) := by decide +kernel
theorem dX0_isHalfAtLeast_9 : decode cX0_isHalfAtLeast 9 = .ok (.getfield 15, 3) := by decide +kernel
theorem dX0_isHalfAtLeast_12 : decode cX0_isHalfAtLeast 12 = .ok (.lcmp, 1) := by decide +kernel
theorem dX0_isHalfAtLeast_13 : decode cX0_isHalfAtLeast 13 = .ok (.ifCond .lt 7, 3) := by decide +kernel
theorem dX0_isHalfAtLeast_16 : decode cX0_isHalfAtLeast 16 = .ok (.iconst 1, 1) := by decide +kernel
theorem dX0_isHalfAtLeast_17 : decode cX0_isHalfAtLeast 17 = .ok (.goto 4, 3) := by decide +kernel
theorem dX0_isHalfAtLeast_20 : decode cX0_isHalfAtLeast 20 = .ok (.iconst 0, 1) := by decide +kernel
theorem dX0_isHalfAtLeast_21 : decode cX0_isHalfAtLeast 21 = .ok (.ireturn, 1) := by decide +kernel
set_option maxRecDepth 20000 in
theorem ggX0_reduce_X0_greatestDivisor : GoodIn wsX0_reduce wsX0_greatestDivisor := goodIn_ca (goodIn_r _ [6] (by decide +kernel) (by decide +kernel)) (goodIn_sub (fun _ h => List.mem_cons_of_mem _ (List.mem_append_right _ h)) (by decide +kernel))
set_option maxRecDepth 20000 in
theorem gX0_reduce_X0_greatestDivisor : GoodIn wsX0_reduce (va_wsS RX0 37 yX0_greatestDivisor wsX0_greatestDivisor) := goodIn_app (goodIn_of _ (by decide +kernel)) ggX0_reduce_X0_greatestDivisor
theorem dX0_reduce_0 : decode cX0_reduce 0 = .ok (.aload_n 0, 1) := by decide +kernel
theorem dX0_reduce_1 : decode cX0_reduce 1 = .ok (.getfield 9, 3) := by decide +kernel
theorem dX0_reduce_4 : decode cX0_reduce 4 = .ok (.aload_n 0, 1) := by decide +kernel
theorem dX0_reduce_5 : decode cX0_reduce 5 = .ok (.getfield 15, 3) := by decide +kernel
theorem dX0_reduce_8 : decode cX0_reduce 8 = .ok (.invokestatic 37, 3) := by decide +kernel
theorem dX0_reduce_11 : decode cX0_reduce 11 = .ok (.lstore_n 1, 1) := by decide +kernel
theorem dX0_reduce_12 : decode cX0_reduce 12 = .ok (.lload_n 1, 1) := by decide +kernel
theorem dX0_reduce_13 : decode cX0_reduce 13 = .ok (.lconst 0, 1) := by decide +kernel
theorem dX0_reduce_14 : decode cX0_reduce 14 = .ok (.lcmp, 1) := by decide +kernel
theorem dX0_reduce_15 : decode cX0_reduce 15 = .ok (.ifCond .le 23, 3) := by decide +kernel
theorem dX0_reduce_18 : decode cX0_reduce 18 = .ok (.aload_n 0, 1) := by decide +kernel
theorem dX0_reduce_19 : decode cX0_reduce 19 = .ok (.dup, 1) := by decide +kernel
theorem dX0_reduce_20 : decode cX0_reduce 20 = .ok (.getfield 9, 3) := by decide +kernel
theorem dX0_reduce_23 : decode cX0_reduce 23 = .ok (.lload_n 1, 1) := by decide +kernel
theorem dX0_reduce_24 : decode cX0_reduce 24 = .ok (.ldiv, 1) := by decide +kernel
theorem dX0_reduce_25 : decode cX0_reduce 25 = .ok (.putfield 9, 3) := by decide +kernel
theorem dX0_reduce_28 : decode cX0_reduce 28 = .ok (.aload_n 0, 1) := by decide +kernel
theorem dX0_reduce_29 : decode cX0_reduce 29 = .ok (.dup, 1) := by decide +kernel
theorem dX0_reduce_30 : decode cX0_reduce 30 = .ok (.getfield 15, 3) := by decide +kernel
theorem dX0_reduce_33 : decode cX0_reduce 33 = .ok (.lload_n 1, 1) := by decide +kernel
theorem dX0_reduce_34 : decode cX0_reduce 34 = .ok (.ldiv, 1) := by decide +kernel
theorem dX0_reduce_35 : decode cX0_reduce 35 = .ok (.putfield 15, 3) := by decide +kernel
theorem dX0_reduce_38 : decode cX0_reduce 38 = .ok (.return_, 1) := by decide +kernel
theorem dX0_greatestDivisor_0 : decode cX0_greatestDivisor 0 = .ok (.lload_n 0, 1) := by decide +kernel
theorem dX0_greatestDivisor_1 : decode cX0_greatestDivisor 1 = .ok (.lstore 4, 2) := by decide +kernel
theorem dX0_greatestDivisor_3 : decode cX0_greatestDivisor 3 = .ok (.lload_n 2, 1) := by decide +kernel
theorem dX0_greatestDivisor_4 : decode cX0_greatestDivisor 4 = .ok (.lstore 6, 2) := by decide +kernel
theorem dX0_greatestDivisor_6 : decode cX0_greatestDivisor 6 = .ok (.iconst 0, 1) := by decide +kernel
theorem dX0_greatestDivisor_7 : decode cX0_greatestDivisor 7 = .ok (.istore 8, 2) := by decide +kernel
theorem dX0_greatestDivisor_9 : decode cX0_greatestDivisor 9 = .ok (.iload 8, 2) := by decide +kernel
theorem dX0_greatestDivisor_11 : decode cX0_greatestDivisor 11 = .ok (.sipush 200, 3) := by decide +kernel
theorem dX0_greatestDivisor_14 : decode cX0_greatestDivisor 14 = .ok (.if_icmp .ge 31, 3) := by decide +kernel
theorem dX0_greatestDivisor_17 : decode cX0_greatestDivisor 17 = .ok (.lload 6, 2) := by decide +kernel
theorem dX0_greatestDivisor_19 : decode cX0_greatestDivisor 19 = .ok (.lconst 0, 1) := by decide +kernel
theorem dX0_greatestDivisor_20 : decode cX0_greatestDivisor 20 = .ok (.lcmp, 1) := by decide +kernel
theorem dX0_greatestDivisor_21 : decode cX0_greatestDivisor 21 = .ok (.ifCond .eq 24, 3) := by decide +kernel
theorem dX0_greatestDivisor_24 : decode cX0_greatestDivisor 24 = .ok (.lload 4, 2) := by decide +kernel
theorem dX0_greatestDivisor_26 : decode cX0_greatestDivisor 26 = .ok (.lload 6, 2) := by decide +kernel
theorem dX0_greatestDivisor_28 : decode cX0_greatestDivisor 28 = .ok (.lrem, 1) := by decide +kernel
theorem dX0_greatestDivisor_29 : decode cX0_greatestDivisor 29 = .ok (.lstore 9, 2) := by decide +kernel
theorem dX0_greatestDivisor_31 : decode cX0_greatestDivisor 31 = .ok (.lload 6, 2) := by decide +kernel
theorem dX0_greatestDivisor_33 : decode cX0_greatestDivisor 33 = .ok (.lstore 4, 2) := by decide +kernel
theorem dX0_greatestDivisor_35 : decode cX0_greatestDivisor 35 = .ok (.lload 9, 2) := by decide +kernel
theorem dX0_greatestDivisor_37 : decode cX0_greatestDivisor 37 = .ok (.lstore 6, 2) := by decide +kernel
theorem dX0_greatestDivisor_39 : decode cX0_greatestDivisor 39 = .ok (.iinc 8 1, 3) := by decide +kernel
theorem dX0_greatestDivisor_42 : decode cX0_greatestDivisor 42 = .ok (.goto (-33), 3) := by decide +kernel
theorem dX0_greatestDivisor_45 : decode cX0_greatestDivisor 45 = .ok (.lload 4, 2) := by decide +kernel
theorem dX0_greatestDivisor_47 : decode cX0_greatestDivisor 47 = .ok (.lreturn, 1) := by decide +kernel
