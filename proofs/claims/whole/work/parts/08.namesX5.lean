theorem dX5_init_0 : decode cX5_init 0 = .ok (.aload_n 0, 1) := by decide +kernel
theorem dX5_init_1 : decode cX5_init 1 = .ok (.invokespecial 1, 3) := by decide +kernel
theorem dX5_init_4 : decode cX5_init 4 = .ok (.aload_n 0, 1) := by decide +kernel
theorem dX5_init_5 : decode cX5_init 5 = .ok (.bipush 51, 2) := by decide +kernel
theorem dX5_init_7 : decode cX5_init 7 = .ok (.newarray .int, 2) := by decide +kernel
theorem dX5_init_9 : decode cX5_init 9 = .ok (.putfield 7, 3) := by decide +kernel
theorem dX5_init_12 : decode cX5_init 12 = .ok (.aload_n 0, 1) := by decide +kernel
theorem dX5_init_13 : decode cX5_init 13 = .ok (.sipush 408, 3) := by decide +kernel
theorem dX5_init_16 : decode cX5_init 16 = .ok (.newarray .int, 2) := by decide +kernel
theorem dX5_init_18 : decode cX5_init 18 = .ok (.putfield 13, 3) := by decide +kernel
theorem dX5_init_21 : decode cX5_init 21 = .ok (.aload_n 0, 1) := by decide +kernel
theorem dX5_init_22 : decode cX5_init 22 = .ok (.sipush 408, 3) := by decide +kernel
theorem dX5_init_25 : decode cX5_init 25 = .ok (.newarray .int, 2) := by decide +kernel
theorem dX5_init_27 : decode cX5_init 27 = .ok (.putfield 16, 3) := by decide +kernel
theorem dX5_init_30 : decode cX5_init 30 = .ok (.aload_n 0, 1) := by decide +kernel
theorem dX5_init_31 : decode cX5_init 31 = .ok (.bipush 51, 2) := by decide +kernel
theorem dX5_init_33 : decode cX5_init 33 = .ok (.newarray .int, 2) := by decide +kernel
theorem dX5_init_35 : decode cX5_init 35 = .ok (.putfield 19, 3) := by decide +kernel
theorem dX5_init_38 : decode cX5_init 38 = .ok (.aload_n 0, 1) := by decide +kernel
theorem dX5_init_39 : decode cX5_init 39 = .ok (.bipush 51, 2) := by decide +kernel
theorem dX5_init_41 : decode cX5_init 41 = .ok (.newarray .boolean, 2) := by decide +kernel
theorem dX5_init_43 : decode cX5_init 43 = .ok (.putfield 22, 3) := by decide +kernel
theorem dX5_init_46 : decode cX5_init 46 = .ok (.aload_n 0, 1) := by decide +kernel
theorem dX5_init_47 : decode cX5_init 47 = .ok (.bipush 51, 2) := by decide +kernel
theorem dX5_init_49 : decode cX5_init 49 = .ok (.newarray .long, 2) := by decide +kernel
theorem dX5_init_51 : decode cX5_init 51 = .ok (.putfield 26, 3) := by decide +kernel
theorem dX5_init_54 : decode cX5_init 54 = .ok (.aload_n 0, 1) := by decide +kernel
theorem dX5_init_55 : decode cX5_init 55 = .ok (.bipush 51, 2) := by decide +kernel
theorem dX5_init_57 : decode cX5_init 57 = .ok (.newarray .long, 2) := by decide +kernel
theorem dX5_init_59 : decode cX5_init 59 = .ok (.putfield 30, 3) := by decide +kernel
theorem dX5_init_62 : decode cX5_init 62 = .ok (.aload_n 0, 1) := by decide +kernel
theorem dX5_init_63 : decode cX5_init 63 = .ok (.bipush 51, 2) := by decide +kernel
theorem dX5_init_65 : decode cX5_init 65 = .ok (.newarray .int, 2) := by decide +kernel
theorem dX5_init_67 : decode cX5_init 67 = .ok (.putfield 33, 3) := by decide +kernel
theorem dX5_init_70 : decode cX5_init 70 = .ok (.aload_n 0, 1) := by decide +kernel
theorem dX5_init_71 : decode cX5_init 71 = .ok (.iconst 4, 1) := by decide +kernel
theorem dX5_init_72 : decode cX5_init 72 = .ok (.newarray .long, 2) := by decide +kernel
theorem dX5_init_74 : decode cX5_init 74 = .ok (.dup, 1) := by decide +kernel
theorem dX5_init_75 : decode cX5_init 75 = .ok (.iconst 0, 1) := by decide +kernel
theorem dX5_init_76 : decode cX5_init 76 = .ok (.ldc2_w 36, 3) := by decide +kernel
theorem dX5_init_79 : decode cX5_init 79 = .ok (.lastore, 1) := by decide +kernel
theorem dX5_init_80 : decode cX5_init 80 = .ok (.dup, 1) := by decide +kernel
theorem dX5_init_81 : decode cX5_init 81 = .ok (.iconst 1, 1) := by decide +kernel
theorem dX5_init_82 : decode cX5_init 82 = .ok (.ldc2_w 36, 3) := by decide +kernel
theorem dX5_init_85 : decode cX5_init 85 = .ok (.lastore, 1) := by decide +kernel
theorem dX5_init_86 : decode cX5_init 86 = .ok (.dup, 1) := by decide +kernel
theorem dX5_init_87 : decode cX5_init 87 = .ok (.iconst 2, 1) := by decide +kernel
theorem dX5_init_88 : decode cX5_init 88 = .ok (.ldc2_w 36, 3) := by decide +kernel
theorem dX5_init_91 : decode cX5_init 91 = .ok (.lastore, 1) := by decide +kernel
theorem dX5_init_92 : decode cX5_init 92 = .ok (.dup, 1) := by decide +kernel
theorem dX5_init_93 : decode cX5_init 93 = .ok (.iconst 3, 1) := by decide +kernel
theorem dX5_init_94 : decode cX5_init 94 = .ok (.ldc2_w 36, 3) := by decide +kernel
theorem dX5_init_97 : decode cX5_init 97 = .ok (.lastore, 1) := by decide +kernel
theorem dX5_init_98 : decode cX5_init 98 = .ok (.putfield 38, 3) := by decide +kernel
theorem dX5_init_101 : decode cX5_init 101 = .ok (.aload_n 0, 1) := by decide +kernel
theorem dX5_init_102 : decode cX5_init 102 = .ok (.sipush 700, 3) := by decide +kernel
theorem dX5_init_105 : decode cX5_init 105 = .ok (.newarray .int, 2) := by decide +kernel
theorem dX5_init_107 : decode cX5_init 107 = .ok (.putfield 41, 3) := by decide +kernel
theorem dX5_init_110 : decode cX5_init 110 = .ok (.aload_n 0, 1) := by decide +kernel
theorem dX5_init_111 : decode cX5_init 111 = .ok (.sipush 700, 3) := by decide +kernel
theorem dX5_init_114 : decode cX5_init 114 = .ok (.newarray .int, 2) := by decide +kernel
theorem dX5_init_116 : decode cX5_init 116 = .ok (.putfield 44, 3) := by decide +kernel
theorem dX5_init_119 : decode cX5_init 119 = .ok (.aload_n 0, 1) := by decide +kernel
theorem dX5_init_120 : decode cX5_init 120 = .ok (.sipush 700, 3) := by decide +kernel
theorem dX5_init_123 : decode cX5_init 123 = .ok (.newarray .long, 2) := by decide +kernel
theorem dX5_init_125 : decode cX5_init 125 = .ok (.putfield 47, 3) := by decide +kernel
theorem dX5_init_128 : decode cX5_init 128 = .ok (.aload_n 0, 1) := by decide +kernel
theorem dX5_init_129 : decode cX5_init 129 = .ok (.sipush 700, 3) := by decide +kernel
theorem dX5_init_132 : decode cX5_init 132 = .ok (.newarray .long, 2) := by decide +kernel
theorem dX5_init_134 : decode cX5_init 134 = .ok (.putfield 50, 3) := by decide +kernel
theorem dX5_init_137 : decode cX5_init 137 = .ok (.aload_n 0, 1) := by decide +kernel
theorem dX5_init_138 : decode cX5_init 138 = .ok (.bipush 101, 2) := by decide +kernel
theorem dX5_init_140 : decode cX5_init 140 = .ok (.newarray .int, 2) := by decide +kernel
theorem dX5_init_142 : decode cX5_init 142 = .ok (.putfield 53, 3) := by decide +kernel
theorem dX5_init_145 : decode cX5_init 145 = .ok (.aload_n 0, 1) := by decide +kernel
theorem dX5_init_146 : decode cX5_init 146 = .ok (.bipush 101, 2) := by decide +kernel
theorem dX5_init_148 : decode cX5_init 148 = .ok (.newarray .int, 2) := by decide +kernel
theorem dX5_init_150 : decode cX5_init 150 = .ok (.putfield 56, 3) := by decide +kernel
theorem dX5_init_153 : decode cX5_init 153 = .ok (.aload_n 0, 1) := by decide +kernel
theorem dX5_init_154 : decode cX5_init 154 = .ok (.sipush 700, 3) := by decide +kernel
theorem dX5_init_157 : decode cX5_init 157 = .ok (.newarray .int, 2) := by decide +kernel
theorem dX5_init_159 : decode cX5_init 159 = .ok (.putfield 59, 3) := by decide +kernel
theorem dX5_init_162 : decode cX5_init 162 = .ok (.return_, 1) := by decide +kernel
theorem dX5_thrown_0 : decode cX5_thrown 0 = .ok (.aload_n 0, 1) := by decide +kernel
theorem dX5_thrown_1 : decode cX5_thrown 1 = .ok (.getfield 62, 3) := by decide +kernel
theorem dX5_thrown_4 : decode cX5_thrown 4 = .ok (.ireturn, 1) := by decide +kernel
theorem dX5_isName_0 : decode cX5_isName 0 = .ok (.iload_n 1, 1) := by decide +kernel
theorem dX5_isName_1 : decode cX5_isName 1 = .ok (.ifCond .le 15, 3) := by decide +kernel
theorem dX5_isName_4 : decode cX5_isName 4 = .ok (.iload_n 1, 1) := by decide +kernel
theorem dX5_isName_5 : decode cX5_isName 5 = .ok (.aload_n 0, 1) := by decide +kernel
theorem dX5_isName_6 : decode cX5_isName 6 = .ok (.getfield 66, 3) := by decide +kernel
theorem dX5_isName_9 : decode cX5_isName 9 = .ok (.if_icmp .gt 7, 3) := by decide +kernel
theorem dX5_isName_12 : decode cX5_isName 12 = .ok (.iconst 1, 1) := by decide +kernel
theorem dX5_isName_13 : decode cX5_isName 13 = .ok (.goto 4, 3) := by decide +kernel
theorem dX5_isName_16 : decode cX5_isName 16 = .ok (.iconst 0, 1) := by decide +kernel
theorem dX5_isName_17 : decode cX5_isName 17 = .ok (.ireturn, 1) := by decide +kernel
theorem dX5_name_0 : decode cX5_name 0 = .ok (.aload_n 0, 1) := by decide +kernel
theorem dX5_name_1 : decode cX5_name 1 = .ok (.iconst 0, 1) := by decide +kernel
theorem dX5_name_2 : decode cX5_name 2 = .ok (.putfield 62, 3) := by decide +kernel
theorem dX5_name_5 : decode cX5_name 5 = .ok (.iload_n 1, 1) := by decide +kernel
theorem dX5_name_6 : decode cX5_name 6 = .ok (.ifCond .lt 17, 3) := by decide +kernel
theorem dX5_name_9 : decode cX5_name 9 = .ok (.iload_n 1, 1) := by decide +kernel
theorem dX5_name_10 : decode cX5_name 10 = .ok (.iconst 1, 1) := by decide +kernel
theorem dX5_name_11 : decode cX5_name 11 = .ok (.if_icmp .gt 12, 3) := by decide +kernel
theorem dX5_name_14 : decode cX5_name 14 = .ok (.aload_n 0, 1) := by decide +kernel
theorem dX5_name_15 : decode cX5_name 15 = .ok (.getfield 66, 3) := by decide +kernel
theorem dX5_name_18 : decode cX5_name 18 = .ok (.bipush 50, 2) := by decide +kernel
theorem dX5_name_20 : decode cX5_name 20 = .ok (.if_icmp .ne 5, 3) := by decide +kernel
theorem dX5_name_23 : decode cX5_name 23 = .ok (.iconst 0, 1) := by decide +kernel
theorem dX5_name_24 : decode cX5_name 24 = .ok (.ireturn, 1) := by decide +kernel
theorem dX5_name_25 : decode cX5_name 25 = .ok (.aload_n 0, 1) := by decide +kernel
theorem dX5_name_26 : decode cX5_name 26 = .ok (.dup, 1) := by decide +kernel
theorem dX5_name_27 : decode cX5_name 27 = .ok (.getfield 66, 3) := by decide +kernel
theorem dX5_name_30 : decode cX5_name 30 = .ok (.iconst 1, 1) := by decide +kernel
theorem dX5_name_31 : decode cX5_name 31 = .ok (.iadd, 1) := by decide +kernel
theorem dX5_name_32 : decode cX5_name 32 = .ok (.putfield 66, 3) := by decide +kernel
theorem dX5_name_35 : decode cX5_name 35 = .ok (.aload_n 0, 1) := by decide +kernel
theorem dX5_name_36 : decode cX5_name 36 = .ok (.getfield 7, 3) := by decide +kernel
theorem dX5_name_39 : decode cX5_name 39 = .ok (.aload_n 0, 1) := by decide +kernel
theorem dX5_name_40 : decode cX5_name 40 = .ok (.getfield 66, 3) := by decide +kernel
theorem dX5_name_43 : decode cX5_name 43 = .ok (.iload_n 1, 1) := by decide +kernel
theorem dX5_name_44 : decode cX5_name 44 = .ok (.iastore, 1) := by decide +kernel
theorem dX5_name_45 : decode cX5_name 45 = .ok (.aload_n 0, 1) := by decide +kernel
theorem dX5_name_46 : decode cX5_name 46 = .ok (.getfield 66, 3) := by decide +kernel
theorem dX5_name_49 : decode cX5_name 49 = .ok (.ireturn, 1) := by decide +kernel
theorem dX5_has_0 : decode cX5_has 0 = .ok (.iconst 0, 1) := by decide +kernel
theorem dX5_has_1 : decode cX5_has 1 = .ok (.istore 4, 2) := by decide +kernel
theorem dX5_has_3 : decode cX5_has 3 = .ok (.iconst 0, 1) := by decide +kernel
theorem dX5_has_4 : decode cX5_has 4 = .ok (.istore 5, 2) := by decide +kernel
theorem dX5_has_6 : decode cX5_has 6 = .ok (.iload 5, 2) := by decide +kernel
theorem dX5_has_8 : decode cX5_has 8 = .ok (.aload_n 0, 1) := by decide +kernel
theorem dX5_has_9 : decode cX5_has 9 = .ok (.getfield 19, 3) := by decide +kernel
theorem dX5_has_12 : decode cX5_has 12 = .ok (.iload_n 1, 1) := by decide +kernel
theorem dX5_has_13 : decode cX5_has 13 = .ok (.iaload, 1) := by decide +kernel
theorem dX5_has_14 : decode cX5_has 14 = .ok (.if_icmp .ge 53, 3) := by decide +kernel
theorem dX5_has_17 : decode cX5_has 17 = .ok (.iload 4, 2) := by decide +kernel
theorem dX5_has_19 : decode cX5_has 19 = .ok (.ifCond .ne 35, 3) := by decide +kernel
theorem dX5_has_22 : decode cX5_has 22 = .ok (.aload_n 0, 1) := by decide +kernel
theorem dX5_has_23 : decode cX5_has 23 = .ok (.getfield 13, 3) := by decide +kernel
theorem dX5_has_26 : decode cX5_has 26 = .ok (.bipush 8, 2) := by decide +kernel
theorem dX5_has_28 : decode cX5_has 28 = .ok (.iload_n 1, 1) := by decide +kernel
theorem dX5_has_29 : decode cX5_has 29 = .ok (.imul, 1) := by decide +kernel
theorem dX5_has_30 : decode cX5_has 30 = .ok (.iload 5, 2) := by decide +kernel
theorem dX5_has_32 : decode cX5_has 32 = .ok (.iadd, 1) := by decide +kernel
theorem dX5_has_33 : decode cX5_has 33 = .ok (.iaload, 1) := by decide +kernel
theorem dX5_has_34 : decode cX5_has 34 = .ok (.iload_n 2, 1) := by decide +kernel
theorem dX5_has_35 : decode cX5_has 35 = .ok (.if_icmp .ne 23, 3) := by decide +kernel
theorem dX5_has_38 : decode cX5_has 38 = .ok (.aload_n 0, 1) := by decide +kernel
theorem dX5_has_39 : decode cX5_has 39 = .ok (.getfield 16, 3) := by decide +kernel
theorem dX5_has_42 : decode cX5_has 42 = .ok (.bipush 8, 2) := by decide +kernel
theorem dX5_has_44 : decode cX5_has 44 = .ok (.iload_n 1, 1) := by decide +kernel
theorem dX5_has_45 : decode cX5_has 45 = .ok (.imul, 1) := by decide +kernel
theorem dX5_has_46 : decode cX5_has 46 = .ok (.iload 5, 2) := by decide +kernel
theorem dX5_has_48 : decode cX5_has 48 = .ok (.iadd, 1) := by decide +kernel
theorem dX5_has_49 : decode cX5_has 49 = .ok (.iaload, 1) := by decide +kernel
theorem dX5_has_50 : decode cX5_has 50 = .ok (.iload_n 3, 1) := by decide +kernel
theorem dX5_has_51 : decode cX5_has 51 = .ok (.if_icmp .ne 7, 3) := by decide +kernel
theorem dX5_has_54 : decode cX5_has 54 = .ok (.iconst 1, 1) := by decide +kernel
theorem dX5_has_55 : decode cX5_has 55 = .ok (.goto 4, 3) := by decide +kernel
theorem dX5_has_58 : decode cX5_has 58 = .ok (.iconst 0, 1) := by decide +kernel
theorem dX5_has_59 : decode cX5_has 59 = .ok (.istore 4, 2) := by decide +kernel
theorem dX5_has_61 : decode cX5_has 61 = .ok (.iinc 5 1, 3) := by decide +kernel
theorem dX5_has_64 : decode cX5_has 64 = .ok (.goto (-58), 3) := by decide +kernel
theorem dX5_has_67 : decode cX5_has 67 = .ok (.iload 4, 2) := by decide +kernel
theorem dX5_has_69 : decode cX5_has 69 = .ok (.ireturn, 1) := by decide +kernel
set_option maxRecDepth 20000 in
theorem ggX5_token_X5_isName : GoodIn wsX5_token wsX5_isName := goodIn_r _ [9, 10, 15, 16, 17, 18, 19, 20, 21, 22, 23, 24, 25, 26, 27, 28, 29, 30, 31, 32, 33, 34, 35, 36, 37] (by decide +kernel) (by decide +kernel)
set_option maxRecDepth 20000 in
theorem gX5_token_X5_isName : GoodIn wsX5_token (wsV RX5 69 RX5 yX5_isName wsX5_isName) := goodIn_app (goodIn_of _ (by decide +kernel)) ggX5_token_X5_isName
set_option maxRecDepth 20000 in
theorem ggX5_token_X5_has : GoodIn wsX5_token wsX5_has := goodIn_ca (goodIn_r _ [14, 2, 3, 4, 15, 16, 17, 18, 19, 20, 21, 22, 23, 24, 25, 26, 27, 28, 29, 30, 31, 32, 33, 34, 35, 36, 37] (by decide +kernel) (by decide +kernel)) (goodIn_sub (fun _ h => List.mem_cons_of_mem _ (List.mem_append_right _ h)) (by decide +kernel))
set_option maxRecDepth 20000 in
theorem gX5_token_X5_has : GoodIn wsX5_token (wsV RX5 73 RX5 yX5_has wsX5_has) := goodIn_app (goodIn_of _ (by decide +kernel)) ggX5_token_X5_has
theorem dX5_token_0 : decode cX5_token 0 = .ok (.aload_n 0, 1) := by decide +kernel
theorem dX5_token_1 : decode cX5_token 1 = .ok (.iconst 0, 1) := by decide +kernel
theorem dX5_token_2 : decode cX5_token 2 = .ok (.putfield 62, 3) := by decide +kernel
theorem dX5_token_5 : decode cX5_token 5 = .ok (.aload_n 0, 1) := by decide +kernel
theorem dX5_token_6 : decode cX5_token 6 = .ok (.iload_n 1, 1) := by decide +kernel
theorem dX5_token_7 : decode cX5_token 7 = .ok (.invokevirtual 69, 3) := by decide +kernel
theorem dX5_token_10 : decode cX5_token 10 = .ok (.ifCond .eq 77, 3) := by decide +kernel
theorem dX5_token_13 : decode cX5_token 13 = .ok (.iload_n 3, 1) := by decide +kernel
theorem dX5_token_14 : decode cX5_token 14 = .ok (.ifCond .lt 73, 3) := by decide +kernel
theorem dX5_token_17 : decode cX5_token 17 = .ok (.iload_n 3, 1) := by decide +kernel
theorem dX5_token_18 : decode cX5_token 18 = .ok (.iconst 3, 1) := by decide +kernel
theorem dX5_token_19 : decode cX5_token 19 = .ok (.if_icmp .ge 68, 3) := by decide +kernel
theorem dX5_token_22 : decode cX5_token 22 = .ok (.aload_n 0, 1) := by decide +kernel
theorem dX5_token_23 : decode cX5_token 23 = .ok (.getfield 19, 3) := by decide +kernel
theorem dX5_token_26 : decode cX5_token 26 = .ok (.iload_n 1, 1) := by decide +kernel
theorem dX5_token_27 : decode cX5_token 27 = .ok (.iaload, 1) := by decide +kernel
theorem dX5_token_28 : decode cX5_token 28 = .ok (.bipush 8, 2) := by decide +kernel
theorem dX5_token_30 : decode cX5_token 30 = .ok (.if_icmp .ge 57, 3) := by decide +kernel
theorem dX5_token_33 : decode cX5_token 33 = .ok (.aload_n 0, 1) := by decide +kernel
theorem dX5_token_34 : decode cX5_token 34 = .ok (.iload_n 1, 1) := by decide +kernel
theorem dX5_token_35 : decode cX5_token 35 = .ok (.iload_n 2, 1) := by decide +kernel
theorem dX5_token_36 : decode cX5_token 36 = .ok (.iload_n 3, 1) := by decide +kernel
theorem dX5_token_37 : decode cX5_token 37 = .ok (.invokevirtual 73, 3) := by decide +kernel
theorem dX5_token_40 : decode cX5_token 40 = .ok (.ifCond .ne 47, 3) := by decide +kernel
theorem dX5_token_43 : decode cX5_token 43 = .ok (.aload_n 0, 1) := by decide +kernel
theorem dX5_token_44 : decode cX5_token 44 = .ok (.getfield 13, 3) := by decide +kernel
theorem dX5_token_47 : decode cX5_token 47 = .ok (.bipush 8, 2) := by decide +kernel
theorem dX5_token_49 : decode cX5_token 49 = .ok (.iload_n 1, 1) := by decide +kernel
theorem dX5_token_50 : decode cX5_token 50 = .ok (.imul, 1) := by decide +kernel
theorem dX5_token_51 : decode cX5_token 51 = .ok (.aload_n 0, 1) := by decide +kernel
theorem dX5_token_52 : decode cX5_token 52 = .ok (.getfield 19, 3) := by decide +kernel
theorem dX5_token_55 : decode cX5_token 55 = .ok (.iload_n 1, 1) := by decide +kernel
theorem dX5_token_56 : decode cX5_token 56 = .ok (.iaload, 1) := by decide +kernel
theorem dX5_token_57 : decode cX5_token 57 = .ok (.iadd, 1) := by decide +kernel
theorem dX5_token_58 : decode cX5_token 58 = .ok (.iload_n 2, 1) := by decide +kernel
theorem dX5_token_59 : decode cX5_token 59 = .ok (.iastore, 1) := by decide +kernel
theorem dX5_token_60 : decode cX5_token 60 = .ok (.aload_n 0, 1) := by decide +kernel
theorem dX5_token_61 : decode cX5_token 61 = .ok (.getfield 16, 3) := by decide +kernel
theorem dX5_token_64 : decode cX5_token 64 = .ok (.bipush 8, 2) := by decide +kernel
theorem dX5_token_66 : decode cX5_token 66 = .ok (.iload_n 1, 1) := by decide +kernel
theorem dX5_token_67 : decode cX5_token 67 = .ok (.imul, 1) := by decide +kernel
theorem dX5_token_68 : decode cX5_token 68 = .ok (.aload_n 0, 1) := by decide +kernel
theorem dX5_token_69 : decode cX5_token 69 = .ok (.getfield 19, 3) := by decide +kernel
theorem dX5_token_72 : decode cX5_token 72 = .ok (.iload_n 1, 1) := by decide +kernel
theorem dX5_token_73 : decode cX5_token 73 = .ok (.iaload, 1) := by decide +kernel
theorem dX5_token_74 : decode cX5_token 74 = .ok (.iadd, 1) := by decide +kernel
theorem dX5_token_75 : decode cX5_token 75 = .ok (.iload_n 3, 1) := by decide +kernel
theorem dX5_token_76 : decode cX5_token 76 = .ok (.iastore, 1) := by decide +kernel
theorem dX5_token_77 : decode cX5_token 77 = .ok (.aload_n 0, 1) := by decide +kernel
theorem dX5_token_78 : decode cX5_token 78 = .ok (.getfield 19, 3) := by decide +kernel
theorem dX5_token_81 : decode cX5_token 81 = .ok (.iload_n 1, 1) := by decide +kernel
theorem dX5_token_82 : decode cX5_token 82 = .ok (.dup2, 1) := by decide +kernel
theorem dX5_token_83 : decode cX5_token 83 = .ok (.iaload, 1) := by decide +kernel
theorem dX5_token_84 : decode cX5_token 84 = .ok (.iconst 1, 1) := by decide +kernel
theorem dX5_token_85 : decode cX5_token 85 = .ok (.iadd, 1) := by decide +kernel
theorem dX5_token_86 : decode cX5_token 86 = .ok (.iastore, 1) := by decide +kernel
theorem dX5_token_87 : decode cX5_token 87 = .ok (.return_, 1) := by decide +kernel
set_option maxRecDepth 20000 in
theorem ggX5_date_X5_isName : GoodIn wsX5_date wsX5_isName := goodIn_r _ [9, 10, 11, 12, 13, 14, 15, 16, 17, 18, 19, 20, 21, 22, 23, 24, 25, 26, 27, 28, 29, 30, 31, 32, 33] (by decide +kernel) (by decide +kernel)
set_option maxRecDepth 20000 in
theorem gX5_date_X5_isName : GoodIn wsX5_date (wsV RX5 69 RX5 yX5_isName wsX5_isName) := goodIn_app (goodIn_of _ (by decide +kernel)) ggX5_date_X5_isName
theorem dX5_date_0 : decode cX5_date 0 = .ok (.aload_n 0, 1) := by decide +kernel
theorem dX5_date_1 : decode cX5_date 1 = .ok (.iconst 0, 1) := by decide +kernel
theorem dX5_date_2 : decode cX5_date 2 = .ok (.putfield 62, 3) := by decide +kernel
theorem dX5_date_5 : decode cX5_date 5 = .ok (.aload_n 0, 1) := by decide +kernel
theorem dX5_date_6 : decode cX5_date 6 = .ok (.iload_n 1, 1) := by decide +kernel
theorem dX5_date_7 : decode cX5_date 7 = .ok (.invokevirtual 69, 3) := by decide +kernel
theorem dX5_date_10 : decode cX5_date 10 = .ok (.ifCond .eq 32, 3) := by decide +kernel
theorem dX5_date_13 : decode cX5_date 13 = .ok (.lload_n 2, 1) := by decide +kernel
theorem dX5_date_14 : decode cX5_date 14 = .ok (.lload 4, 2) := by decide +kernel
theorem dX5_date_16 : decode cX5_date 16 = .ok (.lcmp, 1) := by decide +kernel
theorem dX5_date_17 : decode cX5_date 17 = .ok (.ifCond .gt 25, 3) := by decide +kernel
theorem dX5_date_20 : decode cX5_date 20 = .ok (.aload_n 0, 1) := by decide +kernel
theorem dX5_date_21 : decode cX5_date 21 = .ok (.getfield 22, 3) := by decide +kernel
theorem dX5_date_24 : decode cX5_date 24 = .ok (.iload_n 1, 1) := by decide +kernel
theorem dX5_date_25 : decode cX5_date 25 = .ok (.iconst 1, 1) := by decide +kernel
theorem dX5_date_26 : decode cX5_date 26 = .ok (.bastore, 1) := by decide +kernel
theorem dX5_date_27 : decode cX5_date 27 = .ok (.aload_n 0, 1) := by decide +kernel
theorem dX5_date_28 : decode cX5_date 28 = .ok (.getfield 26, 3) := by decide +kernel
theorem dX5_date_31 : decode cX5_date 31 = .ok (.iload_n 1, 1) := by decide +kernel
theorem dX5_date_32 : decode cX5_date 32 = .ok (.lload_n 2, 1) := by decide +kernel
theorem dX5_date_33 : decode cX5_date 33 = .ok (.lastore, 1) := by decide +kernel
theorem dX5_date_34 : decode cX5_date 34 = .ok (.aload_n 0, 1) := by decide +kernel
theorem dX5_date_35 : decode cX5_date 35 = .ok (.getfield 30, 3) := by decide +kernel
theorem dX5_date_38 : decode cX5_date 38 = .ok (.iload_n 1, 1) := by decide +kernel
theorem dX5_date_39 : decode cX5_date 39 = .ok (.lload 4, 2) := by decide +kernel
theorem dX5_date_41 : decode cX5_date 41 = .ok (.lastore, 1) := by decide +kernel
theorem dX5_date_42 : decode cX5_date 42 = .ok (.return_, 1) := by decide +kernel
theorem dX5_weight_0 : decode cX5_weight 0 = .ok (.aload_n 0, 1) := by decide +kernel
theorem dX5_weight_1 : decode cX5_weight 1 = .ok (.iconst 0, 1) := by decide +kernel
theorem dX5_weight_2 : decode cX5_weight 2 = .ok (.putfield 62, 3) := by decide +kernel
theorem dX5_weight_5 : decode cX5_weight 5 = .ok (.iload_n 1, 1) := by decide +kernel
theorem dX5_weight_6 : decode cX5_weight 6 = .ok (.ifCond .lt 38, 3) := by decide +kernel
theorem dX5_weight_9 : decode cX5_weight 9 = .ok (.iload_n 1, 1) := by decide +kernel
theorem dX5_weight_10 : decode cX5_weight 10 = .ok (.iconst 3, 1) := by decide +kernel
theorem dX5_weight_11 : decode cX5_weight 11 = .ok (.if_icmp .gt 33, 3) := by decide +kernel
theorem dX5_weight_14 : decode cX5_weight 14 = .ok (.lload_n 2, 1) := by decide +kernel
theorem dX5_weight_15 : decode cX5_weight 15 = .ok (.lconst 0, 1) := by decide +kernel
theorem dX5_weight_16 : decode cX5_weight 16 = .ok (.lcmp, 1) := by decide +kernel
theorem dX5_weight_17 : decode cX5_weight 17 = .ok (.ifCond .lt 27, 3) := by decide +kernel
theorem dX5_weight_20 : decode cX5_weight 20 = .ok (.lload_n 2, 1) := by decide +kernel
theorem dX5_weight_21 : decode cX5_weight 21 = .ok (.ldc2_w 77, 3) := by decide +kernel
theorem dX5_weight_24 : decode cX5_weight 24 = .ok (.lcmp, 1) := by decide +kernel
theorem dX5_weight_25 : decode cX5_weight 25 = .ok (.ifCond .gt 19, 3) := by decide +kernel
theorem dX5_weight_28 : decode cX5_weight 28 = .ok (.lload 4, 2) := by decide +kernel
theorem dX5_weight_30 : decode cX5_weight 30 = .ok (.lconst 1, 1) := by decide +kernel
theorem dX5_weight_31 : decode cX5_weight 31 = .ok (.lcmp, 1) := by decide +kernel
theorem dX5_weight_32 : decode cX5_weight 32 = .ok (.ifCond .lt 12, 3) := by decide +kernel
theorem dX5_weight_35 : decode cX5_weight 35 = .ok (.lload 4, 2) := by decide +kernel
theorem dX5_weight_37 : decode cX5_weight 37 = .ok (.ldc2_w 79, 3) := by decide +kernel
theorem dX5_weight_40 : decode cX5_weight 40 = .ok (.lcmp, 1) := by decide +kernel
theorem dX5_weight_41 : decode cX5_weight 41 = .ok (.ifCond .le 5, 3) := by decide +kernel
theorem dX5_weight_44 : decode cX5_weight 44 = .ok (.iconst 0, 1) := by decide +kernel
theorem dX5_weight_45 : decode cX5_weight 45 = .ok (.ireturn, 1) := by decide +kernel
theorem dX5_weight_46 : decode cX5_weight 46 = .ok (.aload_n 0, 1) := by decide +kernel
theorem dX5_weight_47 : decode cX5_weight 47 = .ok (.getfield 38, 3) := by decide +kernel
theorem dX5_weight_50 : decode cX5_weight 50 = .ok (.iload_n 1, 1) := by decide +kernel
theorem dX5_weight_51 : decode cX5_weight 51 = .ok (.ldc2_w 36, 3) := by decide +kernel
theorem dX5_weight_54 : decode cX5_weight 54 = .ok (.lload 4, 2) := by decide +kernel
theorem dX5_weight_56 : decode cX5_weight 56 = .ok (.ldiv, 1) := by decide +kernel
theorem dX5_weight_57 : decode cX5_weight 57 = .ok (.lload_n 2, 1) := by decide +kernel
theorem dX5_weight_58 : decode cX5_weight 58 = .ok (.lmul, 1) := by decide +kernel
theorem dX5_weight_59 : decode cX5_weight 59 = .ok (.lastore, 1) := by decide +kernel
theorem dX5_weight_60 : decode cX5_weight 60 = .ok (.iconst 1, 1) := by decide +kernel
theorem dX5_weight_61 : decode cX5_weight 61 = .ok (.ireturn, 1) := by decide +kernel
set_option maxRecDepth 20000 in
theorem ggX5_reckon_X5_has : GoodIn wsX5_reckon wsX5_has := goodIn_ca (goodIn_r _ [14, 3, 6, 5, 15, 16, 17, 18, 19, 20, 21, 22, 23, 24, 25, 26, 27, 28, 29, 30, 31, 32, 33, 34, 35, 36, 37] (by decide +kernel) (by decide +kernel)) (goodIn_sub (fun _ h => List.mem_cons_of_mem _ (List.mem_append_right _ h)) (by decide +kernel))
set_option maxRecDepth 20000 in
theorem gX5_reckon_X5_has : GoodIn wsX5_reckon (wsV RX5 73 RX5 yX5_has wsX5_has) := goodIn_app (goodIn_of _ (by decide +kernel)) ggX5_reckon_X5_has
theorem dX5_reckon_0 : decode cX5_reckon 0 = .ok (.aload_n 0, 1) := by decide +kernel
theorem dX5_reckon_1 : decode cX5_reckon 1 = .ok (.lconst 0, 1) := by decide +kernel
theorem dX5_reckon_2 : decode cX5_reckon 2 = .ok (.putfield 81, 3) := by decide +kernel
theorem dX5_reckon_5 : decode cX5_reckon 5 = .ok (.aload_n 0, 1) := by decide +kernel
theorem dX5_reckon_6 : decode cX5_reckon 6 = .ok (.lconst 0, 1) := by decide +kernel
theorem dX5_reckon_7 : decode cX5_reckon 7 = .ok (.putfield 85, 3) := by decide +kernel
theorem dX5_reckon_10 : decode cX5_reckon 10 = .ok (.iconst 0, 1) := by decide +kernel
theorem dX5_reckon_11 : decode cX5_reckon 11 = .ok (.istore_n 3, 1) := by decide +kernel
theorem dX5_reckon_12 : decode cX5_reckon 12 = .ok (.iload_n 3, 1) := by decide +kernel
theorem dX5_reckon_13 : decode cX5_reckon 13 = .ok (.aload_n 0, 1) := by decide +kernel
theorem dX5_reckon_14 : decode cX5_reckon 14 = .ok (.getfield 19, 3) := by decide +kernel
theorem dX5_reckon_17 : decode cX5_reckon 17 = .ok (.iload_n 1, 1) := by decide +kernel
theorem dX5_reckon_18 : decode cX5_reckon 18 = .ok (.iaload, 1) := by decide +kernel
theorem dX5_reckon_19 : decode cX5_reckon 19 = .ok (.if_icmp .ge 83, 3) := by decide +kernel
theorem dX5_reckon_22 : decode cX5_reckon 22 = .ok (.aload_n 0, 1) := by decide +kernel
theorem dX5_reckon_23 : decode cX5_reckon 23 = .ok (.getfield 38, 3) := by decide +kernel
theorem dX5_reckon_26 : decode cX5_reckon 26 = .ok (.aload_n 0, 1) := by decide +kernel
theorem dX5_reckon_27 : decode cX5_reckon 27 = .ok (.getfield 16, 3) := by decide +kernel
theorem dX5_reckon_30 : decode cX5_reckon 30 = .ok (.bipush 8, 2) := by decide +kernel
theorem dX5_reckon_32 : decode cX5_reckon 32 = .ok (.iload_n 1, 1) := by decide +kernel
theorem dX5_reckon_33 : decode cX5_reckon 33 = .ok (.imul, 1) := by decide +kernel
theorem dX5_reckon_34 : decode cX5_reckon 34 = .ok (.iload_n 3, 1) := by decide +kernel
theorem dX5_reckon_35 : decode cX5_reckon 35 = .ok (.iadd, 1) := by decide +kernel
theorem dX5_reckon_36 : decode cX5_reckon 36 = .ok (.iaload, 1) := by decide +kernel
theorem dX5_reckon_37 : decode cX5_reckon 37 = .ok (.laload, 1) := by decide +kernel
theorem dX5_reckon_38 : decode cX5_reckon 38 = .ok (.lstore 4, 2) := by decide +kernel
theorem dX5_reckon_40 : decode cX5_reckon 40 = .ok (.aload_n 0, 1) := by decide +kernel
theorem dX5_reckon_41 : decode cX5_reckon 41 = .ok (.dup, 1) := by decide +kernel
theorem dX5_reckon_42 : decode cX5_reckon 42 = .ok (.getfield 85, 3) := by decide +kernel
theorem dX5_reckon_45 : decode cX5_reckon 45 = .ok (.lload 4, 2) := by decide +kernel
theorem dX5_reckon_47 : decode cX5_reckon 47 = .ok (.ladd, 1) := by decide +kernel
theorem dX5_reckon_48 : decode cX5_reckon 48 = .ok (.putfield 85, 3) := by decide +kernel
theorem dX5_reckon_51 : decode cX5_reckon 51 = .ok (.aload_n 0, 1) := by decide +kernel
theorem dX5_reckon_52 : decode cX5_reckon 52 = .ok (.dup, 1) := by decide +kernel
theorem dX5_reckon_53 : decode cX5_reckon 53 = .ok (.getfield 81, 3) := by decide +kernel
theorem dX5_reckon_56 : decode cX5_reckon 56 = .ok (.aload_n 0, 1) := by decide +kernel
theorem dX5_reckon_57 : decode cX5_reckon 57 = .ok (.iload_n 2, 1) := by decide +kernel
theorem dX5_reckon_58 : decode cX5_reckon 58 = .ok (.aload_n 0, 1) := by decide +kernel
theorem dX5_reckon_59 : decode cX5_reckon 59 = .ok (.getfield 13, 3) := by decide +kernel
theorem dX5_reckon_62 : decode cX5_reckon 62 = .ok (.bipush 8, 2) := by decide +kernel
theorem dX5_reckon_64 : decode cX5_reckon 64 = .ok (.iload_n 1, 1) := by decide +kernel
theorem dX5_reckon_65 : decode cX5_reckon 65 = .ok (.imul, 1) := by decide +kernel
theorem dX5_reckon_66 : decode cX5_reckon 66 = .ok (.iload_n 3, 1) := by decide +kernel
theorem dX5_reckon_67 : decode cX5_reckon 67 = .ok (.iadd, 1) := by decide +kernel
theorem dX5_reckon_68 : decode cX5_reckon 68 = .ok (.iaload, 1) := by decide +kernel
theorem dX5_reckon_69 : decode cX5_reckon 69 = .ok (.aload_n 0, 1) := by decide +kernel
theorem dX5_reckon_70 : decode cX5_reckon 70 = .ok (.getfield 16, 3) := by decide +kernel
theorem dX5_reckon_73 : decode cX5_reckon 73 = .ok (.bipush 8, 2) := by decide +kernel
theorem dX5_reckon_75 : decode cX5_reckon 75 = .ok (.iload_n 1, 1) := by decide +kernel
theorem dX5_reckon_76 : decode cX5_reckon 76 = .ok (.imul, 1) := by decide +kernel
theorem dX5_reckon_77 : decode cX5_reckon 77 = .ok (.iload_n 3, 1) := by decide +kernel
theorem dX5_reckon_78 : decode cX5_reckon 78 = .ok (.iadd, 1) := by decide +kernel
theorem dX5_reckon_79 : decode cX5_reckon 79 = .ok (.iaload, 1) := by decide +kernel
theorem dX5_reckon_80 : decode cX5_reckon 80 = .ok (.invokevirtual 73, 3) := by decide +kernel
theorem dX5_reckon_83 : decode cX5_reckon 83 = .ok (.ifCond .eq 8, 3) := by decide +kernel
theorem dX5_reckon_86 : decode cX5_reckon 86 = .ok (.lload 4, 2) := by decide +kernel
theorem dX5_reckon_88 : decode cX5_reckon 88 = .ok (.goto 4, 3) := by decide +kernel
theorem dX5_reckon_91 : decode cX5_reckon 91 = .ok (.lconst 0, 1) := by decide +kernel
theorem dX5_reckon_92 : decode cX5_reckon 92 = .ok (.ladd, 1) := by decide +kernel
theorem dX5_reckon_93 : decode cX5_reckon 93 = .ok (.putfield 81, 3) := by decide +kernel
theorem dX5_reckon_96 : decode cX5_reckon 96 = .ok (.iinc 3 1, 3) := by decide +kernel
theorem dX5_reckon_99 : decode cX5_reckon 99 = .ok (.goto (-87), 3) := by decide +kernel
theorem dX5_reckon_102 : decode cX5_reckon 102 = .ok (.iconst 0, 1) := by decide +kernel
theorem dX5_reckon_103 : decode cX5_reckon 103 = .ok (.istore_n 3, 1) := by decide +kernel
theorem dX5_reckon_104 : decode cX5_reckon 104 = .ok (.iload_n 3, 1) := by decide +kernel
theorem dX5_reckon_105 : decode cX5_reckon 105 = .ok (.aload_n 0, 1) := by decide +kernel
theorem dX5_reckon_106 : decode cX5_reckon 106 = .ok (.getfield 19, 3) := by decide +kernel
theorem dX5_reckon_109 : decode cX5_reckon 109 = .ok (.iload_n 2, 1) := by decide +kernel
theorem dX5_reckon_110 : decode cX5_reckon 110 = .ok (.iaload, 1) := by decide +kernel
theorem dX5_reckon_111 : decode cX5_reckon 111 = .ok (.if_icmp .ge 68, 3) := by decide +kernel
theorem dX5_reckon_114 : decode cX5_reckon 114 = .ok (.aload_n 0, 1) := by decide +kernel
theorem dX5_reckon_115 : decode cX5_reckon 115 = .ok (.dup, 1) := by decide +kernel
theorem dX5_reckon_116 : decode cX5_reckon 116 = .ok (.getfield 85, 3) := by decide +kernel
theorem dX5_reckon_119 : decode cX5_reckon 119 = .ok (.aload_n 0, 1) := by decide +kernel
theorem dX5_reckon_120 : decode cX5_reckon 120 = .ok (.iload_n 1, 1) := by decide +kernel
theorem dX5_reckon_121 : decode cX5_reckon 121 = .ok (.aload_n 0, 1) := by decide +kernel
theorem dX5_reckon_122 : decode cX5_reckon 122 = .ok (.getfield 13, 3) := by decide +kernel
theorem dX5_reckon_125 : decode cX5_reckon 125 = .ok (.bipush 8, 2) := by decide +kernel
theorem dX5_reckon_127 : decode cX5_reckon 127 = .ok (.iload_n 2, 1) := by decide +kernel
theorem dX5_reckon_128 : decode cX5_reckon 128 = .ok (.imul, 1) := by decide +kernel
theorem dX5_reckon_129 : decode cX5_reckon 129 = .ok (.iload_n 3, 1) := by decide +kernel
theorem dX5_reckon_130 : decode cX5_reckon 130 = .ok (.iadd, 1) := by decide +kernel
theorem dX5_reckon_131 : decode cX5_reckon 131 = .ok (.iaload, 1) := by decide +kernel
theorem dX5_reckon_132 : decode cX5_reckon 132 = .ok (.aload_n 0, 1) := by decide +kernel
theorem dX5_reckon_133 : decode cX5_reckon 133 = .ok (.getfield 16, 3) := by decide +kernel
theorem dX5_reckon_136 : decode cX5_reckon 136 = .ok (.bipush 8, 2) := by decide +kernel
theorem dX5_reckon_138 : decode cX5_reckon 138 = .ok (.iload_n 2, 1) := by decide +kernel
theorem dX5_reckon_139 : decode cX5_reckon 139 = .ok (.imul, 1) := by decide +kernel
theorem dX5_reckon_140 : decode cX5_reckon 140 = .ok (.iload_n 3, 1) := by decide +kernel
theorem dX5_reckon_141 : decode cX5_reckon 141 = .ok (.iadd, 1) := by decide +kernel
theorem dX5_reckon_142 : decode cX5_reckon 142 = .ok (.iaload, 1) := by decide +kernel
theorem dX5_reckon_143 : decode cX5_reckon 143 = .ok (.invokevirtual 73, 3) := by decide +kernel
theorem dX5_reckon_146 : decode cX5_reckon 146 = .ok (.ifCond .eq 7, 3) := by decide +kernel
theorem dX5_reckon_149 : decode cX5_reckon 149 = .ok (.lconst 0, 1) := by decide +kernel
theorem dX5_reckon_150 : decode cX5_reckon 150 = .ok (.goto 19, 3) := by decide +kernel
theorem dX5_reckon_153 : decode cX5_reckon 153 = .ok (.aload_n 0, 1) := by decide +kernel
theorem dX5_reckon_154 : decode cX5_reckon 154 = .ok (.getfield 38, 3) := by decide +kernel
theorem dX5_reckon_157 : decode cX5_reckon 157 = .ok (.aload_n 0, 1) := by decide +kernel
theorem dX5_reckon_158 : decode cX5_reckon 158 = .ok (.getfield 16, 3) := by decide +kernel
theorem dX5_reckon_161 : decode cX5_reckon 161 = .ok (.bipush 8, 2) := by decide +kernel
theorem dX5_reckon_163 : decode cX5_reckon 163 = .ok (.iload_n 2, 1) := by decide +kernel
theorem dX5_reckon_164 : decode cX5_reckon 164 = .ok (.imul, 1) := by decide +kernel
theorem dX5_reckon_165 : decode cX5_reckon 165 = .ok (.iload_n 3, 1) := by decide +kernel
theorem dX5_reckon_166 : decode cX5_reckon 166 = .ok (.iadd, 1) := by decide +kernel
theorem dX5_reckon_167 : decode cX5_reckon 167 = .ok (.iaload, 1) := by decide +kernel
theorem dX5_reckon_168 : decode cX5_reckon 168 = .ok (.laload, 1) := by decide +kernel
theorem dX5_reckon_169 : decode cX5_reckon 169 = .ok (.ladd, 1) := by decide +kernel
theorem dX5_reckon_170 : decode cX5_reckon 170 = .ok (.putfield 85, 3) := by decide +kernel
theorem dX5_reckon_173 : decode cX5_reckon 173 = .ok (.iinc 3 1, 3) := by decide +kernel
theorem dX5_reckon_176 : decode cX5_reckon 176 = .ok (.goto (-72), 3) := by decide +kernel
theorem dX5_reckon_179 : decode cX5_reckon 179 = .ok (.aload_n 0, 1) := by decide +kernel
theorem dX5_reckon_180 : decode cX5_reckon 180 = .ok (.getfield 22, 3) := by decide +kernel
theorem dX5_reckon_183 : decode cX5_reckon 183 = .ok (.iload_n 1, 1) := by decide +kernel
theorem dX5_reckon_184 : decode cX5_reckon 184 = .ok (.baload, 1) := by decide +kernel
theorem dX5_reckon_185 : decode cX5_reckon 185 = .ok (.ifCond .eq 78, 3) := by decide +kernel
theorem dX5_reckon_188 : decode cX5_reckon 188 = .ok (.aload_n 0, 1) := by decide +kernel
theorem dX5_reckon_189 : decode cX5_reckon 189 = .ok (.getfield 22, 3) := by decide +kernel
theorem dX5_reckon_192 : decode cX5_reckon 192 = .ok (.iload_n 2, 1) := by decide +kernel
theorem dX5_reckon_193 : decode cX5_reckon 193 = .ok (.baload, 1) := by decide +kernel
theorem dX5_reckon_194 : decode cX5_reckon 194 = .ok (.ifCond .eq 69, 3) := by decide +kernel
theorem dX5_reckon_197 : decode cX5_reckon 197 = .ok (.aload_n 0, 1) := by decide +kernel
theorem dX5_reckon_198 : decode cX5_reckon 198 = .ok (.dup, 1) := by decide +kernel
theorem dX5_reckon_199 : decode cX5_reckon 199 = .ok (.getfield 85, 3) := by decide +kernel
theorem dX5_reckon_202 : decode cX5_reckon 202 = .ok (.aload_n 0, 1) := by decide +kernel
theorem dX5_reckon_203 : decode cX5_reckon 203 = .ok (.getfield 38, 3) := by decide +kernel
theorem dX5_reckon_206 : decode cX5_reckon 206 = .ok (.iconst 3, 1) := by decide +kernel
theorem dX5_reckon_207 : decode cX5_reckon 207 = .ok (.laload, 1) := by decide +kernel
theorem dX5_reckon_208 : decode cX5_reckon 208 = .ok (.ladd, 1) := by decide +kernel
theorem dX5_reckon_209 : decode cX5_reckon 209 = .ok (.putfield 85, 3) := by decide +kernel
theorem dX5_reckon_212 : decode cX5_reckon 212 = .ok (.aload_n 0, 1) := by decide +kernel
theorem dX5_reckon_213 : decode cX5_reckon 213 = .ok (.dup, 1) := by decide +kernel
theorem dX5_reckon_214 : decode cX5_reckon 214 = .ok (.getfield 81, 3) := by decide +kernel
theorem dX5_reckon_217 : decode cX5_reckon 217 = .ok (.aload_n 0, 1) := by decide +kernel
theorem dX5_reckon_218 : decode cX5_reckon 218 = .ok (.getfield 26, 3) := by decide +kernel
theorem dX5_reckon_221 : decode cX5_reckon 221 = .ok (.iload_n 1, 1) := by decide +kernel
theorem dX5_reckon_222 : decode cX5_reckon 222 = .ok (.laload, 1) := by decide +kernel
theorem dX5_reckon_223 : decode cX5_reckon 223 = .ok (.aload_n 0, 1) := by decide +kernel
theorem dX5_reckon_224 : decode cX5_reckon 224 = .ok (.getfield 30, 3) := by decide +kernel
theorem dX5_reckon_227 : decode cX5_reckon 227 = .ok (.iload_n 2, 1) := by decide +kernel
theorem dX5_reckon_228 : decode cX5_reckon 228 = .ok (.laload, 1) := by decide +kernel
theorem dX5_reckon_229 : decode cX5_reckon 229 = .ok (.lcmp, 1) := by decide +kernel
theorem dX5_reckon_230 : decode cX5_reckon 230 = .ok (.ifCond .gt 28, 3) := by decide +kernel
theorem dX5_reckon_233 : decode cX5_reckon 233 = .ok (.aload_n 0, 1) := by decide +kernel
theorem dX5_reckon_234 : decode cX5_reckon 234 = .ok (.getfield 26, 3) := by decide +kernel
theorem dX5_reckon_237 : decode cX5_reckon 237 = .ok (.iload_n 2, 1) := by decide +kernel
theorem dX5_reckon_238 : decode cX5_reckon 238 = .ok (.laload, 1) := by decide +kernel
theorem dX5_reckon_239 : decode cX5_reckon 239 = .ok (.aload_n 0, 1) := by decide +kernel
theorem dX5_reckon_240 : decode cX5_reckon 240 = .ok (.getfield 30, 3) := by decide +kernel
theorem dX5_reckon_243 : decode cX5_reckon 243 = .ok (.iload_n 1, 1) := by decide +kernel
theorem dX5_reckon_244 : decode cX5_reckon 244 = .ok (.laload, 1) := by decide +kernel
theorem dX5_reckon_245 : decode cX5_reckon 245 = .ok (.lcmp, 1) := by decide +kernel
theorem dX5_reckon_246 : decode cX5_reckon 246 = .ok (.ifCond .gt 12, 3) := by decide +kernel
theorem dX5_reckon_249 : decode cX5_reckon 249 = .ok (.aload_n 0, 1) := by decide +kernel
theorem dX5_reckon_250 : decode cX5_reckon 250 = .ok (.getfield 38, 3) := by decide +kernel
theorem dX5_reckon_253 : decode cX5_reckon 253 = .ok (.iconst 3, 1) := by decide +kernel
theorem dX5_reckon_254 : decode cX5_reckon 254 = .ok (.laload, 1) := by decide +kernel
theorem dX5_reckon_255 : decode cX5_reckon 255 = .ok (.goto 4, 3) := by decide +kernel
theorem dX5_reckon_258 : decode cX5_reckon 258 = .ok (.lconst 0, 1) := by decide +kernel
theorem dX5_reckon_259 : decode cX5_reckon 259 = .ok (.ladd, 1) := by decide +kernel
theorem dX5_reckon_260 : decode cX5_reckon 260 = .ok (.putfield 81, 3) := by decide +kernel
theorem dX5_reckon_263 : decode cX5_reckon 263 = .ok (.return_, 1) := by decide +kernel
set_option maxRecDepth 20000 in
theorem ggX5_run_X5_reckon : GoodIn wsX5_run wsX5_reckon := goodIn_ca (goodIn_r _ [19, 10, 8, 6, 20, 21, 22, 23, 24, 25, 26, 27, 28, 18, 29, 30, 31, 32, 33, 34, 35, 36, 37, 38, 39, 40, 41, 42, 43, 44, 45, 46, 47, 48, 49, 50, 51, 52] (by decide +kernel) (by decide +kernel)) (goodIn_sub (fun _ h => List.mem_cons_of_mem _ (List.mem_append_right _ h)) (by decide +kernel))
set_option maxRecDepth 20000 in
theorem gX5_run_X5_reckon : GoodIn wsX5_run (wsV RX5 95 RX5 yX5_reckon wsX5_reckon) := goodIn_app (goodIn_of _ (by decide +kernel)) ggX5_run_X5_reckon
theorem dX5_run_0 : decode cX5_run 0 = .ok (.aload_n 0, 1) := by decide +kernel
theorem dX5_run_1 : decode cX5_run 1 = .ok (.iconst 0, 1) := by decide +kernel
theorem dX5_run_2 : decode cX5_run 2 = .ok (.putfield 62, 3) := by decide +kernel
theorem dX5_run_5 : decode cX5_run 5 = .ok (.aload_n 0, 1) := by decide +kernel
theorem dX5_run_6 : decode cX5_run 6 = .ok (.iconst 1, 1) := by decide +kernel
theorem dX5_run_7 : decode cX5_run 7 = .ok (.putfield 88, 3) := by decide +kernel
theorem dX5_run_10 : decode cX5_run 10 = .ok (.aload_n 0, 1) := by decide +kernel
theorem dX5_run_11 : decode cX5_run 11 = .ok (.iconst 0, 1) := by decide +kernel
theorem dX5_run_12 : decode cX5_run 12 = .ok (.putfield 92, 3) := by decide +kernel
theorem dX5_run_15 : decode cX5_run 15 = .ok (.iconst 1, 1) := by decide +kernel
theorem dX5_run_16 : decode cX5_run 16 = .ok (.istore_n 1, 1) := by decide +kernel
theorem dX5_run_17 : decode cX5_run 17 = .ok (.iload_n 1, 1) := by decide +kernel
theorem dX5_run_18 : decode cX5_run 18 = .ok (.aload_n 0, 1) := by decide +kernel
theorem dX5_run_19 : decode cX5_run 19 = .ok (.getfield 66, 3) := by decide +kernel
theorem dX5_run_22 : decode cX5_run 22 = .ok (.if_icmp .gt 256, 3) := by decide +kernel
theorem dX5_run_25 : decode cX5_run 25 = .ok (.iconst 1, 1) := by decide +kernel
theorem dX5_run_26 : decode cX5_run 26 = .ok (.istore_n 2, 1) := by decide +kernel
theorem dX5_run_27 : decode cX5_run 27 = .ok (.iload_n 2, 1) := by decide +kernel
theorem dX5_run_28 : decode cX5_run 28 = .ok (.aload_n 0, 1) := by decide +kernel
theorem dX5_run_29 : decode cX5_run 29 = .ok (.getfield 66, 3) := by decide +kernel
theorem dX5_run_32 : decode cX5_run 32 = .ok (.if_icmp .gt 240, 3) := by decide +kernel
theorem dX5_run_35 : decode cX5_run 35 = .ok (.aload_n 0, 1) := by decide +kernel
theorem dX5_run_36 : decode cX5_run 36 = .ok (.getfield 7, 3) := by decide +kernel
theorem dX5_run_39 : decode cX5_run 39 = .ok (.iload_n 1, 1) := by decide +kernel
theorem dX5_run_40 : decode cX5_run 40 = .ok (.iaload, 1) := by decide +kernel
theorem dX5_run_41 : decode cX5_run 41 = .ok (.ifCond .ne 225, 3) := by decide +kernel
theorem dX5_run_44 : decode cX5_run 44 = .ok (.aload_n 0, 1) := by decide +kernel
theorem dX5_run_45 : decode cX5_run 45 = .ok (.getfield 7, 3) := by decide +kernel
theorem dX5_run_48 : decode cX5_run 48 = .ok (.iload_n 2, 1) := by decide +kernel
theorem dX5_run_49 : decode cX5_run 49 = .ok (.iaload, 1) := by decide +kernel
theorem dX5_run_50 : decode cX5_run 50 = .ok (.iconst 1, 1) := by decide +kernel
theorem dX5_run_51 : decode cX5_run 51 = .ok (.if_icmp .ne 215, 3) := by decide +kernel
theorem dX5_run_54 : decode cX5_run 54 = .ok (.aload_n 0, 1) := by decide +kernel
theorem dX5_run_55 : decode cX5_run 55 = .ok (.getfield 19, 3) := by decide +kernel
theorem dX5_run_58 : decode cX5_run 58 = .ok (.iload_n 1, 1) := by decide +kernel
theorem dX5_run_59 : decode cX5_run 59 = .ok (.iaload, 1) := by decide +kernel
theorem dX5_run_60 : decode cX5_run 60 = .ok (.ifCond .le 206, 3) := by decide +kernel
theorem dX5_run_63 : decode cX5_run 63 = .ok (.aload_n 0, 1) := by decide +kernel
theorem dX5_run_64 : decode cX5_run 64 = .ok (.getfield 19, 3) := by decide +kernel
theorem dX5_run_67 : decode cX5_run 67 = .ok (.iload_n 2, 1) := by decide +kernel
theorem dX5_run_68 : decode cX5_run 68 = .ok (.iaload, 1) := by decide +kernel
theorem dX5_run_69 : decode cX5_run 69 = .ok (.ifCond .le 197, 3) := by decide +kernel
theorem dX5_run_72 : decode cX5_run 72 = .ok (.aload_n 0, 1) := by decide +kernel
theorem dX5_run_73 : decode cX5_run 73 = .ok (.getfield 33, 3) := by decide +kernel
theorem dX5_run_76 : decode cX5_run 76 = .ok (.iload_n 1, 1) := by decide +kernel
theorem dX5_run_77 : decode cX5_run 77 = .ok (.iaload, 1) := by decide +kernel
theorem dX5_run_78 : decode cX5_run 78 = .ok (.ifCond .ne 188, 3) := by decide +kernel
theorem dX5_run_81 : decode cX5_run 81 = .ok (.aload_n 0, 1) := by decide +kernel
theorem dX5_run_82 : decode cX5_run 82 = .ok (.getfield 33, 3) := by decide +kernel
theorem dX5_run_85 : decode cX5_run 85 = .ok (.iload_n 2, 1) := by decide +kernel
theorem dX5_run_86 : decode cX5_run 86 = .ok (.iaload, 1) := by decide +kernel
theorem dX5_run_87 : decode cX5_run 87 = .ok (.ifCond .ne 179, 3) := by decide +kernel
theorem dX5_run_90 : decode cX5_run 90 = .ok (.aload_n 0, 1) := by decide +kernel
theorem dX5_run_91 : decode cX5_run 91 = .ok (.iload_n 1, 1) := by decide +kernel
theorem dX5_run_92 : decode cX5_run 92 = .ok (.iload_n 2, 1) := by decide +kernel
theorem dX5_run_93 : decode cX5_run 93 = .ok (.invokevirtual 95, 3) := by decide +kernel
theorem dX5_run_96 : decode cX5_run 96 = .ok (.aload_n 0, 1) := by decide +kernel
theorem dX5_run_97 : decode cX5_run 97 = .ok (.getfield 85, 3) := by decide +kernel
theorem dX5_run_100 : decode cX5_run 100 = .ok (.lconst 0, 1) := by decide +kernel
theorem dX5_run_101 : decode cX5_run 101 = .ok (.lcmp, 1) := by decide +kernel
theorem dX5_run_102 : decode cX5_run 102 = .ok (.ifCond .le 164, 3) := by decide +kernel
theorem dX5_run_105 : decode cX5_run 105 = .ok (.ldc2_w 99, 3) := by decide +kernel
theorem dX5_run_108 : decode cX5_run 108 = .ok (.aload_n 0, 1) := by decide +kernel
theorem dX5_run_109 : decode cX5_run 109 = .ok (.getfield 81, 3) := by decide +kernel
theorem dX5_run_112 : decode cX5_run 112 = .ok (.lmul, 1) := by decide +kernel
theorem dX5_run_113 : decode cX5_run 113 = .ok (.aload_n 0, 1) := by decide +kernel
theorem dX5_run_114 : decode cX5_run 114 = .ok (.getfield 85, 3) := by decide +kernel
theorem dX5_run_117 : decode cX5_run 117 = .ok (.lcmp, 1) := by decide +kernel
theorem dX5_run_118 : decode cX5_run 118 = .ok (.ifCond .lt 148, 3) := by decide +kernel
theorem dX5_run_121 : decode cX5_run 121 = .ok (.aload_n 0, 1) := by decide +kernel
theorem dX5_run_122 : decode cX5_run 122 = .ok (.getfield 92, 3) := by decide +kernel
theorem dX5_run_125 : decode cX5_run 125 = .ok (.istore_n 3, 1) := by decide +kernel
theorem dX5_run_126 : decode cX5_run 126 = .ok (.iload_n 3, 1) := by decide +kernel
theorem dX5_run_127 : decode cX5_run 127 = .ok (.ifCond .le 95, 3) := by decide +kernel
theorem dX5_run_130 : decode cX5_run 130 = .ok (.aload_n 0, 1) := by decide +kernel
theorem dX5_run_131 : decode cX5_run 131 = .ok (.getfield 81, 3) := by decide +kernel
theorem dX5_run_134 : decode cX5_run 134 = .ok (.aload_n 0, 1) := by decide +kernel
theorem dX5_run_135 : decode cX5_run 135 = .ok (.getfield 50, 3) := by decide +kernel
theorem dX5_run_138 : decode cX5_run 138 = .ok (.iload_n 3, 1) := by decide +kernel
theorem dX5_run_139 : decode cX5_run 139 = .ok (.iconst 1, 1) := by decide +kernel
theorem dX5_run_140 : decode cX5_run 140 = .ok (.isub, 1) := by decide +kernel
theorem dX5_run_141 : decode cX5_run 141 = .ok (.laload, 1) := by decide +kernel
theorem dX5_run_142 : decode cX5_run 142 = .ok (.lmul, 1) := by decide +kernel
theorem dX5_run_143 : decode cX5_run 143 = .ok (.aload_n 0, 1) := by decide +kernel
theorem dX5_run_144 : decode cX5_run 144 = .ok (.getfield 47, 3) := by decide +kernel
theorem dX5_run_147 : decode cX5_run 147 = .ok (.iload_n 3, 1) := by decide +kernel
theorem dX5_run_148 : decode cX5_run 148 = .ok (.iconst 1, 1) := by decide +kernel
theorem dX5_run_149 : decode cX5_run 149 = .ok (.isub, 1) := by decide +kernel
theorem dX5_run_150 : decode cX5_run 150 = .ok (.laload, 1) := by decide +kernel
theorem dX5_run_151 : decode cX5_run 151 = .ok (.aload_n 0, 1) := by decide +kernel
theorem dX5_run_152 : decode cX5_run 152 = .ok (.getfield 85, 3) := by decide +kernel
theorem dX5_run_155 : decode cX5_run 155 = .ok (.lmul, 1) := by decide +kernel
theorem dX5_run_156 : decode cX5_run 156 = .ok (.lcmp, 1) := by decide +kernel
theorem dX5_run_157 : decode cX5_run 157 = .ok (.ifCond .le 65, 3) := by decide +kernel
theorem dX5_run_160 : decode cX5_run 160 = .ok (.aload_n 0, 1) := by decide +kernel
theorem dX5_run_161 : decode cX5_run 161 = .ok (.getfield 41, 3) := by decide +kernel
theorem dX5_run_164 : decode cX5_run 164 = .ok (.iload_n 3, 1) := by decide +kernel
theorem dX5_run_165 : decode cX5_run 165 = .ok (.aload_n 0, 1) := by decide +kernel
theorem dX5_run_166 : decode cX5_run 166 = .ok (.getfield 41, 3) := by decide +kernel
theorem dX5_run_169 : decode cX5_run 169 = .ok (.iload_n 3, 1) := by decide +kernel
theorem dX5_run_170 : decode cX5_run 170 = .ok (.iconst 1, 1) := by decide +kernel
theorem dX5_run_171 : decode cX5_run 171 = .ok (.isub, 1) := by decide +kernel
theorem dX5_run_172 : decode cX5_run 172 = .ok (.iaload, 1) := by decide +kernel
theorem dX5_run_173 : decode cX5_run 173 = .ok (.iastore, 1) := by decide +kernel
theorem dX5_run_174 : decode cX5_run 174 = .ok (.aload_n 0, 1) := by decide +kernel
theorem dX5_run_175 : decode cX5_run 175 = .ok (.getfield 44, 3) := by decide +kernel
theorem dX5_run_178 : decode cX5_run 178 = .ok (.iload_n 3, 1) := by decide +kernel
theorem dX5_run_179 : decode cX5_run 179 = .ok (.aload_n 0, 1) := by decide +kernel
theorem dX5_run_180 : decode cX5_run 180 = .ok (.getfield 44, 3) := by decide +kernel
theorem dX5_run_183 : decode cX5_run 183 = .ok (.iload_n 3, 1) := by decide +kernel
theorem dX5_run_184 : decode cX5_run 184 = .ok (.iconst 1, 1) := by decide +kernel
theorem dX5_run_185 : decode cX5_run 185 = .ok (.isub, 1) := by decide +kernel
theorem dX5_run_186 : decode cX5_run 186 = .ok (.iaload, 1) := by decide +kernel
theorem dX5_run_187 : decode cX5_run 187 = .ok (.iastore, 1) := by decide +kernel
theorem dX5_run_188 : decode cX5_run 188 = .ok (.aload_n 0, 1) := by decide +kernel
theorem dX5_run_189 : decode cX5_run 189 = .ok (.getfield 47, 3) := by decide +kernel
theorem dX5_run_192 : decode cX5_run 192 = .ok (.iload_n 3, 1) := by decide +kernel
theorem dX5_run_193 : decode cX5_run 193 = .ok (.aload_n 0, 1) := by decide +kernel
theorem dX5_run_194 : decode cX5_run 194 = .ok (.getfield 47, 3) := by decide +kernel
theorem dX5_run_197 : decode cX5_run 197 = .ok (.iload_n 3, 1) := by decide +kernel
theorem dX5_run_198 : decode cX5_run 198 = .ok (.iconst 1, 1) := by decide +kernel
theorem dX5_run_199 : decode cX5_run 199 = .ok (.isub, 1) := by decide +kernel
theorem dX5_run_200 : decode cX5_run 200 = .ok (.laload, 1) := by decide +kernel
theorem dX5_run_201 : decode cX5_run 201 = .ok (.lastore, 1) := by decide +kernel
theorem dX5_run_202 : decode cX5_run 202 = .ok (.aload_n 0, 1) := by decide +kernel
theorem dX5_run_203 : decode cX5_run 203 = .ok (.getfield 50, 3) := by decide +kernel
theorem dX5_run_206 : decode cX5_run 206 = .ok (.iload_n 3, 1) := by decide +kernel
theorem dX5_run_207 : decode cX5_run 207 = .ok (.aload_n 0, 1) := by decide +kernel
theorem dX5_run_208 : decode cX5_run 208 = .ok (.getfield 50, 3) := by decide +kernel
theorem dX5_run_211 : decode cX5_run 211 = .ok (.iload_n 3, 1) := by decide +kernel
theorem dX5_run_212 : decode cX5_run 212 = .ok (.iconst 1, 1) := by decide +kernel
theorem dX5_run_213 : decode cX5_run 213 = .ok (.isub, 1) := by decide +kernel
theorem dX5_run_214 : decode cX5_run 214 = .ok (.laload, 1) := by decide +kernel
theorem dX5_run_215 : decode cX5_run 215 = .ok (.lastore, 1) := by decide +kernel
theorem dX5_run_216 : decode cX5_run 216 = .ok (.iinc 3 (-1), 3) := by decide +kernel
theorem dX5_run_219 : decode cX5_run 219 = .ok (.goto (-93), 3) := by decide +kernel
theorem dX5_run_222 : decode cX5_run 222 = .ok (.aload_n 0, 1) := by decide +kernel
theorem dX5_run_223 : decode cX5_run 223 = .ok (.getfield 41, 3) := by decide +kernel
theorem dX5_run_226 : decode cX5_run 226 = .ok (.iload_n 3, 1) := by decide +kernel
theorem dX5_run_227 : decode cX5_run 227 = .ok (.iload_n 1, 1) := by decide +kernel
theorem dX5_run_228 : decode cX5_run 228 = .ok (.iastore, 1) := by decide +kernel
theorem dX5_run_229 : decode cX5_run 229 = .ok (.aload_n 0, 1) := by decide +kernel
theorem dX5_run_230 : decode cX5_run 230 = .ok (.getfield 44, 3) := by decide +kernel
theorem dX5_run_233 : decode cX5_run 233 = .ok (.iload_n 3, 1) := by decide +kernel
theorem dX5_run_234 : decode cX5_run 234 = .ok (.iload_n 2, 1) := by decide +kernel
theorem dX5_run_235 : decode cX5_run 235 = .ok (.iastore, 1) := by decide +kernel
theorem dX5_run_236 : decode cX5_run 236 = .ok (.aload_n 0, 1) := by decide +kernel
theorem dX5_run_237 : decode cX5_run 237 = .ok (.getfield 47, 3) := by decide +kernel
theorem dX5_run_240 : decode cX5_run 240 = .ok (.iload_n 3, 1) := by decide +kernel
theorem dX5_run_241 : decode cX5_run 241 = .ok (.aload_n 0, 1) := by decide +kernel
theorem dX5_run_242 : decode cX5_run 242 = .ok (.getfield 81, 3) := by decide +kernel
theorem dX5_run_245 : decode cX5_run 245 = .ok (.lastore, 1) := by decide +kernel
theorem dX5_run_246 : decode cX5_run 246 = .ok (.aload_n 0, 1) := by decide +kernel
theorem dX5_run_247 : decode cX5_run 247 = .ok (.getfield 50, 3) := by decide +kernel
theorem dX5_run_250 : decode cX5_run 250 = .ok (.iload_n 3, 1) := by decide +kernel
theorem dX5_run_251 : decode cX5_run 251 = .ok (.aload_n 0, 1) := by decide +kernel
theorem dX5_run_252 : decode cX5_run 252 = .ok (.getfield 85, 3) := by decide +kernel
theorem dX5_run_255 : decode cX5_run 255 = .ok (.lastore, 1) := by decide +kernel
theorem dX5_run_256 : decode cX5_run 256 = .ok (.aload_n 0, 1) := by decide +kernel
theorem dX5_run_257 : decode cX5_run 257 = .ok (.dup, 1) := by decide +kernel
theorem dX5_run_258 : decode cX5_run 258 = .ok (.getfield 92, 3) := by decide +kernel
theorem dX5_run_261 : decode cX5_run 261 = .ok (.iconst 1, 1) := by decide +kernel
theorem dX5_run_262 : decode cX5_run 262 = .ok (.iadd, 1) := by decide +kernel
theorem dX5_run_263 : decode cX5_run 263 = .ok (.putfield 92, 3) := by decide +kernel
theorem dX5_run_266 : decode cX5_run 266 = .ok (.iinc 2 1, 3) := by decide +kernel
theorem dX5_run_269 : decode cX5_run 269 = .ok (.goto (-242), 3) := by decide +kernel
theorem dX5_run_272 : decode cX5_run 272 = .ok (.iinc 1 1, 3) := by decide +kernel
theorem dX5_run_275 : decode cX5_run 275 = .ok (.goto (-258), 3) := by decide +kernel
theorem dX5_run_278 : decode cX5_run 278 = .ok (.aload_n 0, 1) := by decide +kernel
theorem dX5_run_279 : decode cX5_run 279 = .ok (.getfield 92, 3) := by decide +kernel
theorem dX5_run_282 : decode cX5_run 282 = .ok (.ireturn, 1) := by decide +kernel
theorem dX5_isPair_0 : decode cX5_isPair 0 = .ok (.iload_n 1, 1) := by decide +kernel
theorem dX5_isPair_1 : decode cX5_isPair 1 = .ok (.ifCond .lt 15, 3) := by decide +kernel
theorem dX5_isPair_4 : decode cX5_isPair 4 = .ok (.iload_n 1, 1) := by decide +kernel
theorem dX5_isPair_5 : decode cX5_isPair 5 = .ok (.aload_n 0, 1) := by decide +kernel
theorem dX5_isPair_6 : decode cX5_isPair 6 = .ok (.getfield 92, 3) := by decide +kernel
theorem dX5_isPair_9 : decode cX5_isPair 9 = .ok (.if_icmp .ge 7, 3) := by decide +kernel
theorem dX5_isPair_12 : decode cX5_isPair 12 = .ok (.iconst 1, 1) := by decide +kernel
theorem dX5_isPair_13 : decode cX5_isPair 13 = .ok (.goto 4, 3) := by decide +kernel
theorem dX5_isPair_16 : decode cX5_isPair 16 = .ok (.iconst 0, 1) := by decide +kernel
theorem dX5_isPair_17 : decode cX5_isPair 17 = .ok (.ireturn, 1) := by decide +kernel
set_option maxRecDepth 20000 in
theorem ggX5_pair_X5_isPair : GoodIn wsX5_pair wsX5_isPair := goodIn_r _ [8, 9, 10, 11, 12, 13, 14, 15, 16, 17, 18, 19, 20, 21, 22, 23, 24, 25, 26, 27, 28, 29, 30, 31, 32] (by decide +kernel) (by decide +kernel)
set_option maxRecDepth 20000 in
theorem gX5_pair_X5_isPair : GoodIn wsX5_pair (wsV RX5 101 RX5 yX5_isPair wsX5_isPair) := goodIn_app (goodIn_of _ (by decide +kernel)) ggX5_pair_X5_isPair
theorem dX5_pair_0 : decode cX5_pair 0 = .ok (.aload_n 0, 1) := by decide +kernel
theorem dX5_pair_1 : decode cX5_pair 1 = .ok (.iconst 0, 1) := by decide +kernel
theorem dX5_pair_2 : decode cX5_pair 2 = .ok (.putfield 62, 3) := by decide +kernel
theorem dX5_pair_5 : decode cX5_pair 5 = .ok (.aload_n 0, 1) := by decide +kernel
theorem dX5_pair_6 : decode cX5_pair 6 = .ok (.iload_n 1, 1) := by decide +kernel
theorem dX5_pair_7 : decode cX5_pair 7 = .ok (.invokevirtual 101, 3) := by decide +kernel
theorem dX5_pair_10 : decode cX5_pair 10 = .ok (.ifCond .eq 12, 3) := by decide +kernel
theorem dX5_pair_13 : decode cX5_pair 13 = .ok (.iload_n 2, 1) := by decide +kernel
theorem dX5_pair_14 : decode cX5_pair 14 = .ok (.ifCond .lt 8, 3) := by decide +kernel
theorem dX5_pair_17 : decode cX5_pair 17 = .ok (.iload_n 2, 1) := by decide +kernel
theorem dX5_pair_18 : decode cX5_pair 18 = .ok (.iconst 1, 1) := by decide +kernel
theorem dX5_pair_19 : decode cX5_pair 19 = .ok (.if_icmp .le 7, 3) := by decide +kernel
theorem dX5_pair_22 : decode cX5_pair 22 = .ok (.iconst 0, 1) := by decide +kernel
theorem dX5_pair_23 : decode cX5_pair 23 = .ok (.goto 22, 3) := by decide +kernel
theorem dX5_pair_26 : decode cX5_pair 26 = .ok (.iload_n 2, 1) := by decide +kernel
theorem dX5_pair_27 : decode cX5_pair 27 = .ok (.ifCond .ne 12, 3) := by decide +kernel
theorem dX5_pair_30 : decode cX5_pair 30 = .ok (.aload_n 0, 1) := by decide +kernel
theorem dX5_pair_31 : decode cX5_pair 31 = .ok (.getfield 41, 3) := by decide +kernel
theorem dX5_pair_34 : decode cX5_pair 34 = .ok (.iload_n 1, 1) := by decide +kernel
theorem dX5_pair_35 : decode cX5_pair 35 = .ok (.iaload, 1) := by decide +kernel
theorem dX5_pair_36 : decode cX5_pair 36 = .ok (.goto 9, 3) := by decide +kernel
theorem dX5_pair_39 : decode cX5_pair 39 = .ok (.aload_n 0, 1) := by decide +kernel
theorem dX5_pair_40 : decode cX5_pair 40 = .ok (.getfield 44, 3) := by decide +kernel
theorem dX5_pair_43 : decode cX5_pair 43 = .ok (.iload_n 1, 1) := by decide +kernel
theorem dX5_pair_44 : decode cX5_pair 44 = .ok (.iaload, 1) := by decide +kernel
theorem dX5_pair_45 : decode cX5_pair 45 = .ok (.ireturn, 1) := by decide +kernel
set_option maxRecDepth 20000 in
theorem ggX5_index_X5_isPair : GoodIn wsX5_index wsX5_isPair := goodIn_r _ [8, 9, 10, 11, 12, 13, 14, 15, 16, 17, 18, 19, 20, 21, 22, 23, 24, 25, 26, 27, 28, 29, 30, 31, 32] (by decide +kernel) (by decide +kernel)
set_option maxRecDepth 20000 in
theorem gX5_index_X5_isPair : GoodIn wsX5_index (wsV RX5 101 RX5 yX5_isPair wsX5_isPair) := goodIn_app (goodIn_of _ (by decide +kernel)) ggX5_index_X5_isPair
theorem dX5_index_0 : decode cX5_index 0 = .ok (.aload_n 0, 1) := by decide +kernel
theorem dX5_index_1 : decode cX5_index 1 = .ok (.iconst 0, 1) := by decide +kernel
theorem dX5_index_2 : decode cX5_index 2 = .ok (.putfield 62, 3) := by decide +kernel
theorem dX5_index_5 : decode cX5_index 5 = .ok (.aload_n 0, 1) := by decide +kernel
theorem dX5_index_6 : decode cX5_index 6 = .ok (.iload_n 1, 1) := by decide +kernel
theorem dX5_index_7 : decode cX5_index 7 = .ok (.invokevirtual 101, 3) := by decide +kernel
theorem dX5_index_10 : decode cX5_index 10 = .ok (.ifCond .ne 10, 3) := by decide +kernel
theorem dX5_index_13 : decode cX5_index 13 = .ok (.aload_n 0, 1) := by decide +kernel
theorem dX5_index_14 : decode cX5_index 14 = .ok (.iconst 1, 1) := by decide +kernel
theorem dX5_index_15 : decode cX5_index 15 = .ok (.putfield 62, 3) := by decide +kernel
theorem dX5_index_18 : decode cX5_index 18 = .ok (.iconst 0, 1) := by decide +kernel
theorem dX5_index_19 : decode cX5_index 19 = .ok (.ireturn, 1) := by decide +kernel
theorem dX5_index_20 : decode cX5_index 20 = .ok (.iload_n 2, 1) := by decide +kernel
theorem dX5_index_21 : decode cX5_index 21 = .ok (.iconst 1, 1) := by decide +kernel
theorem dX5_index_22 : decode cX5_index 22 = .ok (.if_icmp .ne 12, 3) := by decide +kernel
theorem dX5_index_25 : decode cX5_index 25 = .ok (.aload_n 0, 1) := by decide +kernel
theorem dX5_index_26 : decode cX5_index 26 = .ok (.getfield 44, 3) := by decide +kernel
theorem dX5_index_29 : decode cX5_index 29 = .ok (.iload_n 1, 1) := by decide +kernel
theorem dX5_index_30 : decode cX5_index 30 = .ok (.iaload, 1) := by decide +kernel
theorem dX5_index_31 : decode cX5_index 31 = .ok (.goto 9, 3) := by decide +kernel
theorem dX5_index_34 : decode cX5_index 34 = .ok (.aload_n 0, 1) := by decide +kernel
theorem dX5_index_35 : decode cX5_index 35 = .ok (.getfield 41, 3) := by decide +kernel
theorem dX5_index_38 : decode cX5_index 38 = .ok (.iload_n 1, 1) := by decide +kernel
theorem dX5_index_39 : decode cX5_index 39 = .ok (.iaload, 1) := by decide +kernel
theorem dX5_index_40 : decode cX5_index 40 = .ok (.ireturn, 1) := by decide +kernel
set_option maxRecDepth 20000 in
theorem ggX5_score_X5_isPair : GoodIn wsX5_score wsX5_isPair := goodIn_r _ [11, 12, 28, 29, 30, 31, 32, 33, 34, 35, 36, 37, 38, 39, 40, 41, 42, 43, 44, 45, 46, 47, 48, 49, 50] (by decide +kernel) (by decide +kernel)
set_option maxRecDepth 20000 in
theorem gX5_score_X5_isPair : GoodIn wsX5_score (wsV RX5 101 RX5 yX5_isPair wsX5_isPair) := goodIn_app (goodIn_of _ (by decide +kernel)) ggX5_score_X5_isPair
set_option maxRecDepth 20000 in
theorem ggX5_score_X5_reckon : GoodIn wsX5_score wsX5_reckon := goodIn_ca (goodIn_r _ [16, 6, 5, 17, 18, 19, 20, 21, 22, 23, 24, 25, 26, 10, 27, 28, 29, 30, 31, 32, 33, 34, 35, 36, 37, 38, 39, 40, 41, 42, 43, 44, 45, 46, 47, 48, 49, 50] (by decide +kernel) (by decide +kernel)) (goodIn_sub (fun _ h => List.mem_cons_of_mem _ (List.mem_append_left _ (List.mem_append_right _ h))) (by decide +kernel))
set_option maxRecDepth 20000 in
theorem gX5_score_X5_reckon : GoodIn wsX5_score (wsV RX5 95 RX5 yX5_reckon wsX5_reckon) := goodIn_app (goodIn_of _ (by decide +kernel)) ggX5_score_X5_reckon
theorem dX5_score_0 : decode cX5_score 0 = .ok (.aload_n 0, 1) := by decide +kernel
theorem dX5_score_1 : decode cX5_score 1 = .ok (.iconst 0, 1) := by decide +kernel
theorem dX5_score_2 : decode cX5_score 2 = .ok (.putfield 62, 3) := by decide +kernel
theorem dX5_score_5 : decode cX5_score 5 = .ok (.aload_n 0, 1) := by decide +kernel
theorem dX5_score_6 : decode cX5_score 6 = .ok (.iload_n 1, 1) := by decide +kernel
theorem dX5_score_7 : decode cX5_score 7 = .ok (.invokevirtual 101, 3) := by decide +kernel
theorem dX5_score_10 : decode cX5_score 10 = .ok (.ifCond .ne 7, 3) := by decide +kernel
theorem dX5_score_13 : decode cX5_score 13 = .ok (.ldc2_w 104, 3) := by decide +kernel
theorem dX5_score_16 : decode cX5_score 16 = .ok (.lreturn, 1) := by decide +kernel
theorem dX5_score_17 : decode cX5_score 17 = .ok (.aload_n 0, 1) := by decide +kernel
theorem dX5_score_18 : decode cX5_score 18 = .ok (.aload_n 0, 1) := by decide +kernel
theorem dX5_score_19 : decode cX5_score 19 = .ok (.getfield 41, 3) := by decide +kernel
theorem dX5_score_22 : decode cX5_score 22 = .ok (.iload_n 1, 1) := by decide +kernel
theorem dX5_score_23 : decode cX5_score 23 = .ok (.iaload, 1) := by decide +kernel
theorem dX5_score_24 : decode cX5_score 24 = .ok (.aload_n 0, 1) := by decide +kernel
theorem dX5_score_25 : decode cX5_score 25 = .ok (.getfield 44, 3) := by decide +kernel
theorem dX5_score_28 : decode cX5_score 28 = .ok (.iload_n 1, 1) := by decide +kernel
theorem dX5_score_29 : decode cX5_score 29 = .ok (.iaload, 1) := by decide +kernel
theorem dX5_score_30 : decode cX5_score 30 = .ok (.invokevirtual 95, 3) := by decide +kernel
theorem dX5_score_33 : decode cX5_score 33 = .ok (.aload_n 0, 1) := by decide +kernel
theorem dX5_score_34 : decode cX5_score 34 = .ok (.getfield 85, 3) := by decide +kernel
theorem dX5_score_37 : decode cX5_score 37 = .ok (.lconst 0, 1) := by decide +kernel
theorem dX5_score_38 : decode cX5_score 38 = .ok (.lcmp, 1) := by decide +kernel
theorem dX5_score_39 : decode cX5_score 39 = .ok (.ifCond .ne 10, 3) := by decide +kernel
theorem dX5_score_42 : decode cX5_score 42 = .ok (.aload_n 0, 1) := by decide +kernel
theorem dX5_score_43 : decode cX5_score 43 = .ok (.iconst 1, 1) := by decide +kernel
theorem dX5_score_44 : decode cX5_score 44 = .ok (.putfield 62, 3) := by decide +kernel
theorem dX5_score_47 : decode cX5_score 47 = .ok (.lconst 0, 1) := by decide +kernel
theorem dX5_score_48 : decode cX5_score 48 = .ok (.lreturn, 1) := by decide +kernel
theorem dX5_score_49 : decode cX5_score 49 = .ok (.aload_n 0, 1) := by decide +kernel
theorem dX5_score_50 : decode cX5_score 50 = .ok (.getfield 81, 3) := by decide +kernel
theorem dX5_score_53 : decode cX5_score 53 = .ok (.lstore_n 3, 1) := by decide +kernel
theorem dX5_score_54 : decode cX5_score 54 = .ok (.aload_n 0, 1) := by decide +kernel
theorem dX5_score_55 : decode cX5_score 55 = .ok (.getfield 85, 3) := by decide +kernel
theorem dX5_score_58 : decode cX5_score 58 = .ok (.lstore 5, 2) := by decide +kernel
theorem dX5_score_60 : decode cX5_score 60 = .ok (.lload 5, 2) := by decide +kernel
theorem dX5_score_62 : decode cX5_score 62 = .ok (.lconst 0, 1) := by decide +kernel
theorem dX5_score_63 : decode cX5_score 63 = .ok (.lcmp, 1) := by decide +kernel
theorem dX5_score_64 : decode cX5_score 64 = .ok (.ifCond .le 19, 3) := by decide +kernel
theorem dX5_score_67 : decode cX5_score 67 = .ok (.lload_n 3, 1) := by decide +kernel
theorem dX5_score_68 : decode cX5_score 68 = .ok (.lload 5, 2) := by decide +kernel
theorem dX5_score_70 : decode cX5_score 70 = .ok (.lrem, 1) := by decide +kernel
theorem dX5_score_71 : decode cX5_score 71 = .ok (.lstore 7, 2) := by decide +kernel
theorem dX5_score_73 : decode cX5_score 73 = .ok (.lload 5, 2) := by decide +kernel
theorem dX5_score_75 : decode cX5_score 75 = .ok (.lstore_n 3, 1) := by decide +kernel
theorem dX5_score_76 : decode cX5_score 76 = .ok (.lload 7, 2) := by decide +kernel
theorem dX5_score_78 : decode cX5_score 78 = .ok (.lstore 5, 2) := by decide +kernel
theorem dX5_score_80 : decode cX5_score 80 = .ok (.goto (-20), 3) := by decide +kernel
theorem dX5_score_83 : decode cX5_score 83 = .ok (.iload_n 2, 1) := by decide +kernel
theorem dX5_score_84 : decode cX5_score 84 = .ok (.ifCond .ne 12, 3) := by decide +kernel
theorem dX5_score_87 : decode cX5_score 87 = .ok (.aload_n 0, 1) := by decide +kernel
theorem dX5_score_88 : decode cX5_score 88 = .ok (.getfield 81, 3) := by decide +kernel
theorem dX5_score_91 : decode cX5_score 91 = .ok (.lload_n 3, 1) := by decide +kernel
theorem dX5_score_92 : decode cX5_score 92 = .ok (.ldiv, 1) := by decide +kernel
theorem dX5_score_93 : decode cX5_score 93 = .ok (.goto 9, 3) := by decide +kernel
theorem dX5_score_96 : decode cX5_score 96 = .ok (.aload_n 0, 1) := by decide +kernel
theorem dX5_score_97 : decode cX5_score 97 = .ok (.getfield 85, 3) := by decide +kernel
theorem dX5_score_100 : decode cX5_score 100 = .ok (.lload_n 3, 1) := by decide +kernel
theorem dX5_score_101 : decode cX5_score 101 = .ok (.ldiv, 1) := by decide +kernel
theorem dX5_score_102 : decode cX5_score 102 = .ok (.lreturn, 1) := by decide +kernel
set_option maxRecDepth 20000 in
theorem ggX5_mutual_X5_isPair : GoodIn wsX5_mutual wsX5_isPair := goodIn_r _ [11, 2, 12, 13, 14, 15, 16, 17, 18, 19, 20, 21, 22, 23, 24, 25, 26, 27, 28, 29, 30, 31, 32, 33, 34] (by decide +kernel) (by decide +kernel)
set_option maxRecDepth 20000 in
theorem gX5_mutual_X5_isPair : GoodIn wsX5_mutual (wsV RX5 101 RX5 yX5_isPair wsX5_isPair) := goodIn_app (goodIn_of _ (by decide +kernel)) ggX5_mutual_X5_isPair
theorem dX5_mutual_0 : decode cX5_mutual 0 = .ok (.aload_n 0, 1) := by decide +kernel
theorem dX5_mutual_1 : decode cX5_mutual 1 = .ok (.iconst 0, 1) := by decide +kernel
theorem dX5_mutual_2 : decode cX5_mutual 2 = .ok (.putfield 62, 3) := by decide +kernel
theorem dX5_mutual_5 : decode cX5_mutual 5 = .ok (.aload_n 0, 1) := by decide +kernel
theorem dX5_mutual_6 : decode cX5_mutual 6 = .ok (.iload_n 1, 1) := by decide +kernel
theorem dX5_mutual_7 : decode cX5_mutual 7 = .ok (.invokevirtual 101, 3) := by decide +kernel
theorem dX5_mutual_10 : decode cX5_mutual 10 = .ok (.ifCond .ne 5, 3) := by decide +kernel
theorem dX5_mutual_13 : decode cX5_mutual 13 = .ok (.iconst (-1), 1) := by decide +kernel
theorem dX5_mutual_14 : decode cX5_mutual 14 = .ok (.ireturn, 1) := by decide +kernel
theorem dX5_mutual_15 : decode cX5_mutual 15 = .ok (.iconst 0, 1) := by decide +kernel
theorem dX5_mutual_16 : decode cX5_mutual 16 = .ok (.istore_n 2, 1) := by decide +kernel
theorem dX5_mutual_17 : decode cX5_mutual 17 = .ok (.iload_n 2, 1) := by decide +kernel
theorem dX5_mutual_18 : decode cX5_mutual 18 = .ok (.aload_n 0, 1) := by decide +kernel
theorem dX5_mutual_19 : decode cX5_mutual 19 = .ok (.getfield 92, 3) := by decide +kernel
theorem dX5_mutual_22 : decode cX5_mutual 22 = .ok (.if_icmp .ge 71, 3) := by decide +kernel
theorem dX5_mutual_25 : decode cX5_mutual 25 = .ok (.aload_n 0, 1) := by decide +kernel
theorem dX5_mutual_26 : decode cX5_mutual 26 = .ok (.getfield 41, 3) := by decide +kernel
theorem dX5_mutual_29 : decode cX5_mutual 29 = .ok (.iload_n 2, 1) := by decide +kernel
theorem dX5_mutual_30 : decode cX5_mutual 30 = .ok (.iaload, 1) := by decide +kernel
theorem dX5_mutual_31 : decode cX5_mutual 31 = .ok (.aload_n 0, 1) := by decide +kernel
theorem dX5_mutual_32 : decode cX5_mutual 32 = .ok (.getfield 41, 3) := by decide +kernel
theorem dX5_mutual_35 : decode cX5_mutual 35 = .ok (.iload_n 1, 1) := by decide +kernel
theorem dX5_mutual_36 : decode cX5_mutual 36 = .ok (.iaload, 1) := by decide +kernel
theorem dX5_mutual_37 : decode cX5_mutual 37 = .ok (.if_icmp .eq 18, 3) := by decide +kernel
theorem dX5_mutual_40 : decode cX5_mutual 40 = .ok (.aload_n 0, 1) := by decide +kernel
theorem dX5_mutual_41 : decode cX5_mutual 41 = .ok (.getfield 44, 3) := by decide +kernel
theorem dX5_mutual_44 : decode cX5_mutual 44 = .ok (.iload_n 2, 1) := by decide +kernel
theorem dX5_mutual_45 : decode cX5_mutual 45 = .ok (.iaload, 1) := by decide +kernel
theorem dX5_mutual_46 : decode cX5_mutual 46 = .ok (.aload_n 0, 1) := by decide +kernel
theorem dX5_mutual_47 : decode cX5_mutual 47 = .ok (.getfield 44, 3) := by decide +kernel
theorem dX5_mutual_50 : decode cX5_mutual 50 = .ok (.iload_n 1, 1) := by decide +kernel
theorem dX5_mutual_51 : decode cX5_mutual 51 = .ok (.iaload, 1) := by decide +kernel
theorem dX5_mutual_52 : decode cX5_mutual 52 = .ok (.if_icmp .ne 35, 3) := by decide +kernel
theorem dX5_mutual_55 : decode cX5_mutual 55 = .ok (.aload_n 0, 1) := by decide +kernel
theorem dX5_mutual_56 : decode cX5_mutual 56 = .ok (.getfield 47, 3) := by decide +kernel
theorem dX5_mutual_59 : decode cX5_mutual 59 = .ok (.iload_n 2, 1) := by decide +kernel
theorem dX5_mutual_60 : decode cX5_mutual 60 = .ok (.laload, 1) := by decide +kernel
theorem dX5_mutual_61 : decode cX5_mutual 61 = .ok (.aload_n 0, 1) := by decide +kernel
theorem dX5_mutual_62 : decode cX5_mutual 62 = .ok (.getfield 50, 3) := by decide +kernel
theorem dX5_mutual_65 : decode cX5_mutual 65 = .ok (.iload_n 1, 1) := by decide +kernel
theorem dX5_mutual_66 : decode cX5_mutual 66 = .ok (.laload, 1) := by decide +kernel
theorem dX5_mutual_67 : decode cX5_mutual 67 = .ok (.lmul, 1) := by decide +kernel
theorem dX5_mutual_68 : decode cX5_mutual 68 = .ok (.aload_n 0, 1) := by decide +kernel
theorem dX5_mutual_69 : decode cX5_mutual 69 = .ok (.getfield 47, 3) := by decide +kernel
theorem dX5_mutual_72 : decode cX5_mutual 72 = .ok (.iload_n 1, 1) := by decide +kernel
theorem dX5_mutual_73 : decode cX5_mutual 73 = .ok (.laload, 1) := by decide +kernel
theorem dX5_mutual_74 : decode cX5_mutual 74 = .ok (.aload_n 0, 1) := by decide +kernel
theorem dX5_mutual_75 : decode cX5_mutual 75 = .ok (.getfield 50, 3) := by decide +kernel
theorem dX5_mutual_78 : decode cX5_mutual 78 = .ok (.iload_n 2, 1) := by decide +kernel
theorem dX5_mutual_79 : decode cX5_mutual 79 = .ok (.laload, 1) := by decide +kernel
theorem dX5_mutual_80 : decode cX5_mutual 80 = .ok (.lmul, 1) := by decide +kernel
theorem dX5_mutual_81 : decode cX5_mutual 81 = .ok (.lcmp, 1) := by decide +kernel
theorem dX5_mutual_82 : decode cX5_mutual 82 = .ok (.ifCond .le 5, 3) := by decide +kernel
theorem dX5_mutual_85 : decode cX5_mutual 85 = .ok (.iconst 0, 1) := by decide +kernel
theorem dX5_mutual_86 : decode cX5_mutual 86 = .ok (.ireturn, 1) := by decide +kernel
theorem dX5_mutual_87 : decode cX5_mutual 87 = .ok (.iinc 2 1, 3) := by decide +kernel
theorem dX5_mutual_90 : decode cX5_mutual 90 = .ok (.goto (-73), 3) := by decide +kernel
theorem dX5_mutual_93 : decode cX5_mutual 93 = .ok (.iconst 1, 1) := by decide +kernel
theorem dX5_mutual_94 : decode cX5_mutual 94 = .ok (.ireturn, 1) := by decide +kernel
set_option maxRecDepth 20000 in
theorem ggX5_join_X5_isName : GoodIn wsX5_join wsX5_isName := goodIn_r _ [11, 12, 13, 14, 15, 16, 17, 18, 19, 20, 21, 22, 23, 24, 25, 26, 27, 28, 29, 30, 31, 32, 33, 34, 35] (by decide +kernel) (by decide +kernel)
set_option maxRecDepth 20000 in
theorem gX5_join_X5_isName : GoodIn wsX5_join (wsV RX5 69 RX5 yX5_isName wsX5_isName) := goodIn_app (goodIn_of _ (by decide +kernel)) ggX5_join_X5_isName
theorem dX5_join_0 : decode cX5_join 0 = .ok (.aload_n 0, 1) := by decide +kernel
theorem dX5_join_1 : decode cX5_join 1 = .ok (.iconst 0, 1) := by decide +kernel
theorem dX5_join_2 : decode cX5_join 2 = .ok (.putfield 62, 3) := by decide +kernel
theorem dX5_join_5 : decode cX5_join 5 = .ok (.aload_n 0, 1) := by decide +kernel
theorem dX5_join_6 : decode cX5_join 6 = .ok (.iload_n 1, 1) := by decide +kernel
theorem dX5_join_7 : decode cX5_join 7 = .ok (.invokevirtual 69, 3) := by decide +kernel
theorem dX5_join_10 : decode cX5_join 10 = .ok (.ifCond .eq 57, 3) := by decide +kernel
theorem dX5_join_13 : decode cX5_join 13 = .ok (.aload_n 0, 1) := by decide +kernel
theorem dX5_join_14 : decode cX5_join 14 = .ok (.iload_n 2, 1) := by decide +kernel
theorem dX5_join_15 : decode cX5_join 15 = .ok (.invokevirtual 69, 3) := by decide +kernel
theorem dX5_join_18 : decode cX5_join 18 = .ok (.ifCond .eq 49, 3) := by decide +kernel
theorem dX5_join_21 : decode cX5_join 21 = .ok (.aload_n 0, 1) := by decide +kernel
theorem dX5_join_22 : decode cX5_join 22 = .ok (.getfield 7, 3) := by decide +kernel
theorem dX5_join_25 : decode cX5_join 25 = .ok (.iload_n 1, 1) := by decide +kernel
theorem dX5_join_26 : decode cX5_join 26 = .ok (.iaload, 1) := by decide +kernel
theorem dX5_join_27 : decode cX5_join 27 = .ok (.ifCond .ne 40, 3) := by decide +kernel
theorem dX5_join_30 : decode cX5_join 30 = .ok (.aload_n 0, 1) := by decide +kernel
theorem dX5_join_31 : decode cX5_join 31 = .ok (.getfield 7, 3) := by decide +kernel
theorem dX5_join_34 : decode cX5_join 34 = .ok (.iload_n 2, 1) := by decide +kernel
theorem dX5_join_35 : decode cX5_join 35 = .ok (.iaload, 1) := by decide +kernel
theorem dX5_join_36 : decode cX5_join 36 = .ok (.iconst 1, 1) := by decide +kernel
theorem dX5_join_37 : decode cX5_join 37 = .ok (.if_icmp .ne 30, 3) := by decide +kernel
theorem dX5_join_40 : decode cX5_join 40 = .ok (.aload_n 0, 1) := by decide +kernel
theorem dX5_join_41 : decode cX5_join 41 = .ok (.getfield 33, 3) := by decide +kernel
theorem dX5_join_44 : decode cX5_join 44 = .ok (.iload_n 1, 1) := by decide +kernel
theorem dX5_join_45 : decode cX5_join 45 = .ok (.iaload, 1) := by decide +kernel
theorem dX5_join_46 : decode cX5_join 46 = .ok (.ifCond .ne 21, 3) := by decide +kernel
theorem dX5_join_49 : decode cX5_join 49 = .ok (.aload_n 0, 1) := by decide +kernel
theorem dX5_join_50 : decode cX5_join 50 = .ok (.getfield 33, 3) := by decide +kernel
theorem dX5_join_53 : decode cX5_join 53 = .ok (.iload_n 2, 1) := by decide +kernel
theorem dX5_join_54 : decode cX5_join 54 = .ok (.iaload, 1) := by decide +kernel
theorem dX5_join_55 : decode cX5_join 55 = .ok (.ifCond .ne 12, 3) := by decide +kernel
theorem dX5_join_58 : decode cX5_join 58 = .ok (.aload_n 0, 1) := by decide +kernel
theorem dX5_join_59 : decode cX5_join 59 = .ok (.getfield 106, 3) := by decide +kernel
theorem dX5_join_62 : decode cX5_join 62 = .ok (.bipush 100, 2) := by decide +kernel
theorem dX5_join_64 : decode cX5_join 64 = .ok (.if_icmp .ne 5, 3) := by decide +kernel
theorem dX5_join_67 : decode cX5_join 67 = .ok (.iconst 0, 1) := by decide +kernel
theorem dX5_join_68 : decode cX5_join 68 = .ok (.ireturn, 1) := by decide +kernel
theorem dX5_join_69 : decode cX5_join 69 = .ok (.aload_n 0, 1) := by decide +kernel
theorem dX5_join_70 : decode cX5_join 70 = .ok (.dup, 1) := by decide +kernel
theorem dX5_join_71 : decode cX5_join 71 = .ok (.getfield 106, 3) := by decide +kernel
theorem dX5_join_74 : decode cX5_join 74 = .ok (.iconst 1, 1) := by decide +kernel
theorem dX5_join_75 : decode cX5_join 75 = .ok (.iadd, 1) := by decide +kernel
theorem dX5_join_76 : decode cX5_join 76 = .ok (.putfield 106, 3) := by decide +kernel
theorem dX5_join_79 : decode cX5_join 79 = .ok (.aload_n 0, 1) := by decide +kernel
theorem dX5_join_80 : decode cX5_join 80 = .ok (.getfield 53, 3) := by decide +kernel
theorem dX5_join_83 : decode cX5_join 83 = .ok (.aload_n 0, 1) := by decide +kernel
theorem dX5_join_84 : decode cX5_join 84 = .ok (.getfield 106, 3) := by decide +kernel
theorem dX5_join_87 : decode cX5_join 87 = .ok (.iload_n 1, 1) := by decide +kernel
theorem dX5_join_88 : decode cX5_join 88 = .ok (.iastore, 1) := by decide +kernel
theorem dX5_join_89 : decode cX5_join 89 = .ok (.aload_n 0, 1) := by decide +kernel
theorem dX5_join_90 : decode cX5_join 90 = .ok (.getfield 56, 3) := by decide +kernel
theorem dX5_join_93 : decode cX5_join 93 = .ok (.aload_n 0, 1) := by decide +kernel
theorem dX5_join_94 : decode cX5_join 94 = .ok (.getfield 106, 3) := by decide +kernel
theorem dX5_join_97 : decode cX5_join 97 = .ok (.iload_n 2, 1) := by decide +kernel
theorem dX5_join_98 : decode cX5_join 98 = .ok (.iastore, 1) := by decide +kernel
theorem dX5_join_99 : decode cX5_join 99 = .ok (.aload_n 0, 1) := by decide +kernel
theorem dX5_join_100 : decode cX5_join 100 = .ok (.getfield 33, 3) := by decide +kernel
theorem dX5_join_103 : decode cX5_join 103 = .ok (.iload_n 1, 1) := by decide +kernel
theorem dX5_join_104 : decode cX5_join 104 = .ok (.aload_n 0, 1) := by decide +kernel
theorem dX5_join_105 : decode cX5_join 105 = .ok (.getfield 106, 3) := by decide +kernel
theorem dX5_join_108 : decode cX5_join 108 = .ok (.iastore, 1) := by decide +kernel
theorem dX5_join_109 : decode cX5_join 109 = .ok (.aload_n 0, 1) := by decide +kernel
theorem dX5_join_110 : decode cX5_join 110 = .ok (.getfield 33, 3) := by decide +kernel
theorem dX5_join_113 : decode cX5_join 113 = .ok (.iload_n 2, 1) := by decide +kernel
theorem dX5_join_114 : decode cX5_join 114 = .ok (.aload_n 0, 1) := by decide +kernel
theorem dX5_join_115 : decode cX5_join 115 = .ok (.getfield 106, 3) := by decide +kernel
theorem dX5_join_118 : decode cX5_join 118 = .ok (.iastore, 1) := by decide +kernel
theorem dX5_join_119 : decode cX5_join 119 = .ok (.aload_n 0, 1) := by decide +kernel
theorem dX5_join_120 : decode cX5_join 120 = .ok (.getfield 106, 3) := by decide +kernel
theorem dX5_join_123 : decode cX5_join 123 = .ok (.ireturn, 1) := by decide +kernel
theorem dX5_undo_0 : decode cX5_undo 0 = .ok (.aload_n 0, 1) := by decide +kernel
theorem dX5_undo_1 : decode cX5_undo 1 = .ok (.iconst 0, 1) := by decide +kernel
theorem dX5_undo_2 : decode cX5_undo 2 = .ok (.putfield 62, 3) := by decide +kernel
theorem dX5_undo_5 : decode cX5_undo 5 = .ok (.iload_n 1, 1) := by decide +kernel
theorem dX5_undo_6 : decode cX5_undo 6 = .ok (.iconst 1, 1) := by decide +kernel
theorem dX5_undo_7 : decode cX5_undo 7 = .ok (.if_icmp .lt 26, 3) := by decide +kernel
theorem dX5_undo_10 : decode cX5_undo 10 = .ok (.iload_n 1, 1) := by decide +kernel
theorem dX5_undo_11 : decode cX5_undo 11 = .ok (.aload_n 0, 1) := by decide +kernel
theorem dX5_undo_12 : decode cX5_undo 12 = .ok (.getfield 106, 3) := by decide +kernel
theorem dX5_undo_15 : decode cX5_undo 15 = .ok (.if_icmp .gt 18, 3) := by decide +kernel
theorem dX5_undo_18 : decode cX5_undo 18 = .ok (.aload_n 0, 1) := by decide +kernel
theorem dX5_undo_19 : decode cX5_undo 19 = .ok (.getfield 33, 3) := by decide +kernel
theorem dX5_undo_22 : decode cX5_undo 22 = .ok (.aload_n 0, 1) := by decide +kernel
theorem dX5_undo_23 : decode cX5_undo 23 = .ok (.getfield 53, 3) := by decide +kernel
theorem dX5_undo_26 : decode cX5_undo 26 = .ok (.iload_n 1, 1) := by decide +kernel
theorem dX5_undo_27 : decode cX5_undo 27 = .ok (.iaload, 1) := by decide +kernel
theorem dX5_undo_28 : decode cX5_undo 28 = .ok (.iaload, 1) := by decide +kernel
theorem dX5_undo_29 : decode cX5_undo 29 = .ok (.iload_n 1, 1) := by decide +kernel
theorem dX5_undo_30 : decode cX5_undo 30 = .ok (.if_icmp .eq 5, 3) := by decide +kernel
theorem dX5_undo_33 : decode cX5_undo 33 = .ok (.iconst 0, 1) := by decide +kernel
theorem dX5_undo_34 : decode cX5_undo 34 = .ok (.ireturn, 1) := by decide +kernel
theorem dX5_undo_35 : decode cX5_undo 35 = .ok (.aload_n 0, 1) := by decide +kernel
theorem dX5_undo_36 : decode cX5_undo 36 = .ok (.getfield 33, 3) := by decide +kernel
theorem dX5_undo_39 : decode cX5_undo 39 = .ok (.aload_n 0, 1) := by decide +kernel
theorem dX5_undo_40 : decode cX5_undo 40 = .ok (.getfield 53, 3) := by decide +kernel
theorem dX5_undo_43 : decode cX5_undo 43 = .ok (.iload_n 1, 1) := by decide +kernel
theorem dX5_undo_44 : decode cX5_undo 44 = .ok (.iaload, 1) := by decide +kernel
theorem dX5_undo_45 : decode cX5_undo 45 = .ok (.iconst 0, 1) := by decide +kernel
theorem dX5_undo_46 : decode cX5_undo 46 = .ok (.iastore, 1) := by decide +kernel
theorem dX5_undo_47 : decode cX5_undo 47 = .ok (.aload_n 0, 1) := by decide +kernel
theorem dX5_undo_48 : decode cX5_undo 48 = .ok (.getfield 33, 3) := by decide +kernel
theorem dX5_undo_51 : decode cX5_undo 51 = .ok (.aload_n 0, 1) := by decide +kernel
theorem dX5_undo_52 : decode cX5_undo 52 = .ok (.getfield 56, 3) := by decide +kernel
theorem dX5_undo_55 : decode cX5_undo 55 = .ok (.iload_n 1, 1) := by decide +kernel
theorem dX5_undo_56 : decode cX5_undo 56 = .ok (.iaload, 1) := by decide +kernel
theorem dX5_undo_57 : decode cX5_undo 57 = .ok (.iconst 0, 1) := by decide +kernel
theorem dX5_undo_58 : decode cX5_undo 58 = .ok (.iastore, 1) := by decide +kernel
theorem dX5_undo_59 : decode cX5_undo 59 = .ok (.iconst 1, 1) := by decide +kernel
theorem dX5_undo_60 : decode cX5_undo 60 = .ok (.ireturn, 1) := by decide +kernel
set_option maxRecDepth 20000 in
theorem ggX5_sample_X5_isPair : GoodIn wsX5_sample wsX5_isPair := goodIn_r _ [10, 2, 11, 12, 13, 14, 15, 16, 17, 18, 19, 20, 21, 22, 23, 24, 25, 26, 27, 28, 29, 30, 31, 32, 33] (by decide +kernel) (by decide +kernel)
set_option maxRecDepth 20000 in
theorem gX5_sample_X5_isPair : GoodIn wsX5_sample (wsV RX5 101 RX5 yX5_isPair wsX5_isPair) := goodIn_app (goodIn_of _ (by decide +kernel)) ggX5_sample_X5_isPair
theorem dX5_sample_0 : decode cX5_sample 0 = .ok (.aload_n 0, 1) := by decide +kernel
theorem dX5_sample_1 : decode cX5_sample 1 = .ok (.iconst 0, 1) := by decide +kernel
theorem dX5_sample_2 : decode cX5_sample 2 = .ok (.putfield 62, 3) := by decide +kernel
theorem dX5_sample_5 : decode cX5_sample 5 = .ok (.aload_n 0, 1) := by decide +kernel
theorem dX5_sample_6 : decode cX5_sample 6 = .ok (.iload_n 3, 1) := by decide +kernel
theorem dX5_sample_7 : decode cX5_sample 7 = .ok (.invokevirtual 101, 3) := by decide +kernel
theorem dX5_sample_10 : decode cX5_sample 10 = .ok (.ifCond .ne 5, 3) := by decide +kernel
theorem dX5_sample_13 : decode cX5_sample 13 = .ok (.iconst (-1), 1) := by decide +kernel
theorem dX5_sample_14 : decode cX5_sample 14 = .ok (.ireturn, 1) := by decide +kernel
theorem dX5_sample_15 : decode cX5_sample 15 = .ok (.iconst 0, 1) := by decide +kernel
theorem dX5_sample_16 : decode cX5_sample 16 = .ok (.istore 4, 2) := by decide +kernel
theorem dX5_sample_18 : decode cX5_sample 18 = .ok (.iload 4, 2) := by decide +kernel
theorem dX5_sample_20 : decode cX5_sample 20 = .ok (.aload_n 0, 1) := by decide +kernel
theorem dX5_sample_21 : decode cX5_sample 21 = .ok (.getfield 92, 3) := by decide +kernel
theorem dX5_sample_24 : decode cX5_sample 24 = .ok (.if_icmp .ge 18, 3) := by decide +kernel
theorem dX5_sample_27 : decode cX5_sample 27 = .ok (.aload_n 0, 1) := by decide +kernel
theorem dX5_sample_28 : decode cX5_sample 28 = .ok (.getfield 59, 3) := by decide +kernel
theorem dX5_sample_31 : decode cX5_sample 31 = .ok (.iload 4, 2) := by decide +kernel
theorem dX5_sample_33 : decode cX5_sample 33 = .ok (.iload 4, 2) := by decide +kernel
theorem dX5_sample_35 : decode cX5_sample 35 = .ok (.iastore, 1) := by decide +kernel
theorem dX5_sample_36 : decode cX5_sample 36 = .ok (.iinc 4 1, 3) := by decide +kernel
theorem dX5_sample_39 : decode cX5_sample 39 = .ok (.goto (-21), 3) := by decide +kernel
theorem dX5_sample_42 : decode cX5_sample 42 = .ok (.lload_n 1, 1) := by decide +kernel
theorem dX5_sample_43 : decode cX5_sample 43 = .ok (.lstore 4, 2) := by decide +kernel
theorem dX5_sample_45 : decode cX5_sample 45 = .ok (.aload_n 0, 1) := by decide +kernel
theorem dX5_sample_46 : decode cX5_sample 46 = .ok (.getfield 92, 3) := by decide +kernel
theorem dX5_sample_49 : decode cX5_sample 49 = .ok (.iconst 1, 1) := by decide +kernel
theorem dX5_sample_50 : decode cX5_sample 50 = .ok (.isub, 1) := by decide +kernel
theorem dX5_sample_51 : decode cX5_sample 51 = .ok (.istore 6, 2) := by decide +kernel
theorem dX5_sample_53 : decode cX5_sample 53 = .ok (.iload 6, 2) := by decide +kernel
theorem dX5_sample_55 : decode cX5_sample 55 = .ok (.ifCond .le 67, 3) := by decide +kernel
theorem dX5_sample_58 : decode cX5_sample 58 = .ok (.lload 4, 2) := by decide +kernel
theorem dX5_sample_60 : decode cX5_sample 60 = .ok (.ldc2_w 109, 3) := by decide +kernel
theorem dX5_sample_63 : decode cX5_sample 63 = .ok (.lmul, 1) := by decide +kernel
theorem dX5_sample_64 : decode cX5_sample 64 = .ok (.ldc2_w 111, 3) := by decide +kernel
theorem dX5_sample_67 : decode cX5_sample 67 = .ok (.ladd, 1) := by decide +kernel
theorem dX5_sample_68 : decode cX5_sample 68 = .ok (.lstore 4, 2) := by decide +kernel
theorem dX5_sample_70 : decode cX5_sample 70 = .ok (.lload 4, 2) := by decide +kernel
theorem dX5_sample_72 : decode cX5_sample 72 = .ok (.bipush 33, 2) := by decide +kernel
theorem dX5_sample_74 : decode cX5_sample 74 = .ok (.lushr, 1) := by decide +kernel
theorem dX5_sample_75 : decode cX5_sample 75 = .ok (.iload 6, 2) := by decide +kernel
theorem dX5_sample_77 : decode cX5_sample 77 = .ok (.iconst 1, 1) := by decide +kernel
theorem dX5_sample_78 : decode cX5_sample 78 = .ok (.iadd, 1) := by decide +kernel
theorem dX5_sample_79 : decode cX5_sample 79 = .ok (.i2l, 1) := by decide +kernel
theorem dX5_sample_80 : decode cX5_sample 80 = .ok (.lrem, 1) := by decide +kernel
theorem dX5_sample_81 : decode cX5_sample 81 = .ok (.l2i, 1) := by decide +kernel
theorem dX5_sample_82 : decode cX5_sample 82 = .ok (.istore 7, 2) := by decide +kernel
theorem dX5_sample_84 : decode cX5_sample 84 = .ok (.aload_n 0, 1) := by decide +kernel
theorem dX5_sample_85 : decode cX5_sample 85 = .ok (.getfield 59, 3) := by decide +kernel
theorem dX5_sample_88 : decode cX5_sample 88 = .ok (.iload 6, 2) := by decide +kernel
theorem dX5_sample_90 : decode cX5_sample 90 = .ok (.iaload, 1) := by decide +kernel
theorem dX5_sample_91 : decode cX5_sample 91 = .ok (.istore 8, 2) := by decide +kernel
theorem dX5_sample_93 : decode cX5_sample 93 = .ok (.aload_n 0, 1) := by decide +kernel
theorem dX5_sample_94 : decode cX5_sample 94 = .ok (.getfield 59, 3) := by decide +kernel
theorem dX5_sample_97 : decode cX5_sample 97 = .ok (.iload 6, 2) := by decide +kernel
theorem dX5_sample_99 : decode cX5_sample 99 = .ok (.aload_n 0, 1) := by decide +kernel
theorem dX5_sample_100 : decode cX5_sample 100 = .ok (.getfield 59, 3) := by decide +kernel
theorem dX5_sample_103 : decode cX5_sample 103 = .ok (.iload 7, 2) := by decide +kernel
theorem dX5_sample_105 : decode cX5_sample 105 = .ok (.iaload, 1) := by decide +kernel
theorem dX5_sample_106 : decode cX5_sample 106 = .ok (.iastore, 1) := by decide +kernel
theorem dX5_sample_107 : decode cX5_sample 107 = .ok (.aload_n 0, 1) := by decide +kernel
theorem dX5_sample_108 : decode cX5_sample 108 = .ok (.getfield 59, 3) := by decide +kernel
theorem dX5_sample_111 : decode cX5_sample 111 = .ok (.iload 7, 2) := by decide +kernel
theorem dX5_sample_113 : decode cX5_sample 113 = .ok (.iload 8, 2) := by decide +kernel
theorem dX5_sample_115 : decode cX5_sample 115 = .ok (.iastore, 1) := by decide +kernel
theorem dX5_sample_116 : decode cX5_sample 116 = .ok (.iinc 6 (-1), 3) := by decide +kernel
theorem dX5_sample_119 : decode cX5_sample 119 = .ok (.goto (-66), 3) := by decide +kernel
theorem dX5_sample_122 : decode cX5_sample 122 = .ok (.aload_n 0, 1) := by decide +kernel
theorem dX5_sample_123 : decode cX5_sample 123 = .ok (.getfield 59, 3) := by decide +kernel
theorem dX5_sample_126 : decode cX5_sample 126 = .ok (.iload_n 3, 1) := by decide +kernel
theorem dX5_sample_127 : decode cX5_sample 127 = .ok (.iaload, 1) := by decide +kernel
theorem dX5_sample_128 : decode cX5_sample 128 = .ok (.ireturn, 1) := by decide +kernel
theorem dX5_none_0 : decode cX5_none 0 = .ok (.aload_n 0, 1) := by decide +kernel
theorem dX5_none_1 : decode cX5_none 1 = .ok (.iconst 0, 1) := by decide +kernel
theorem dX5_none_2 : decode cX5_none 2 = .ok (.putfield 62, 3) := by decide +kernel
theorem dX5_none_5 : decode cX5_none 5 = .ok (.iconst 0, 1) := by decide +kernel
theorem dX5_none_6 : decode cX5_none 6 = .ok (.istore_n 2, 1) := by decide +kernel
theorem dX5_none_7 : decode cX5_none 7 = .ok (.iconst 1, 1) := by decide +kernel
theorem dX5_none_8 : decode cX5_none 8 = .ok (.istore_n 3, 1) := by decide +kernel
theorem dX5_none_9 : decode cX5_none 9 = .ok (.iload_n 3, 1) := by decide +kernel
theorem dX5_none_10 : decode cX5_none 10 = .ok (.aload_n 0, 1) := by decide +kernel
theorem dX5_none_11 : decode cX5_none 11 = .ok (.getfield 66, 3) := by decide +kernel
theorem dX5_none_14 : decode cX5_none 14 = .ok (.if_icmp .gt 92, 3) := by decide +kernel
theorem dX5_none_17 : decode cX5_none 17 = .ok (.aload_n 0, 1) := by decide +kernel
theorem dX5_none_18 : decode cX5_none 18 = .ok (.getfield 88, 3) := by decide +kernel
theorem dX5_none_21 : decode cX5_none 21 = .ok (.ifCond .eq 85, 3) := by decide +kernel
theorem dX5_none_24 : decode cX5_none 24 = .ok (.iload_n 1, 1) := by decide +kernel
theorem dX5_none_25 : decode cX5_none 25 = .ok (.ifCond .lt 81, 3) := by decide +kernel
theorem dX5_none_28 : decode cX5_none 28 = .ok (.aload_n 0, 1) := by decide +kernel
theorem dX5_none_29 : decode cX5_none 29 = .ok (.getfield 7, 3) := by decide +kernel
theorem dX5_none_32 : decode cX5_none 32 = .ok (.iload_n 3, 1) := by decide +kernel
theorem dX5_none_33 : decode cX5_none 33 = .ok (.iaload, 1) := by decide +kernel
theorem dX5_none_34 : decode cX5_none 34 = .ok (.ifCond .ne 7, 3) := by decide +kernel
theorem dX5_none_37 : decode cX5_none 37 = .ok (.iconst 1, 1) := by decide +kernel
theorem dX5_none_38 : decode cX5_none 38 = .ok (.goto 4, 3) := by decide +kernel
theorem dX5_none_41 : decode cX5_none 41 = .ok (.iconst 0, 1) := by decide +kernel
theorem dX5_none_42 : decode cX5_none 42 = .ok (.istore 4, 2) := by decide +kernel
theorem dX5_none_44 : decode cX5_none 44 = .ok (.iconst 0, 1) := by decide +kernel
theorem dX5_none_45 : decode cX5_none 45 = .ok (.istore 5, 2) := by decide +kernel
theorem dX5_none_47 : decode cX5_none 47 = .ok (.iload 5, 2) := by decide +kernel
theorem dX5_none_49 : decode cX5_none 49 = .ok (.aload_n 0, 1) := by decide +kernel
theorem dX5_none_50 : decode cX5_none 50 = .ok (.getfield 92, 3) := by decide +kernel
theorem dX5_none_53 : decode cX5_none 53 = .ok (.if_icmp .ge 32, 3) := by decide +kernel
theorem dX5_none_56 : decode cX5_none 56 = .ok (.iload 4, 2) := by decide +kernel
theorem dX5_none_58 : decode cX5_none 58 = .ok (.ifCond .eq 18, 3) := by decide +kernel
theorem dX5_none_61 : decode cX5_none 61 = .ok (.aload_n 0, 1) := by decide +kernel
theorem dX5_none_62 : decode cX5_none 62 = .ok (.getfield 41, 3) := by decide +kernel
theorem dX5_none_65 : decode cX5_none 65 = .ok (.iload 5, 2) := by decide +kernel
theorem dX5_none_67 : decode cX5_none 67 = .ok (.iaload, 1) := by decide +kernel
theorem dX5_none_68 : decode cX5_none 68 = .ok (.iload_n 3, 1) := by decide +kernel
theorem dX5_none_69 : decode cX5_none 69 = .ok (.if_icmp .eq 7, 3) := by decide +kernel
theorem dX5_none_72 : decode cX5_none 72 = .ok (.iconst 1, 1) := by decide +kernel
theorem dX5_none_73 : decode cX5_none 73 = .ok (.goto 4, 3) := by decide +kernel
theorem dX5_none_76 : decode cX5_none 76 = .ok (.iconst 0, 1) := by decide +kernel
theorem dX5_none_77 : decode cX5_none 77 = .ok (.istore 4, 2) := by decide +kernel
theorem dX5_none_79 : decode cX5_none 79 = .ok (.iinc 5 1, 3) := by decide +kernel
theorem dX5_none_82 : decode cX5_none 82 = .ok (.goto (-35), 3) := by decide +kernel
theorem dX5_none_85 : decode cX5_none 85 = .ok (.iload 4, 2) := by decide +kernel
theorem dX5_none_87 : decode cX5_none 87 = .ok (.ifCond .eq 13, 3) := by decide +kernel
theorem dX5_none_90 : decode cX5_none 90 = .ok (.iload_n 2, 1) := by decide +kernel
theorem dX5_none_91 : decode cX5_none 91 = .ok (.iload_n 1, 1) := by decide +kernel
theorem dX5_none_92 : decode cX5_none 92 = .ok (.if_icmp .ne 5, 3) := by decide +kernel
theorem dX5_none_95 : decode cX5_none 95 = .ok (.iload_n 3, 1) := by decide +kernel
theorem dX5_none_96 : decode cX5_none 96 = .ok (.ireturn, 1) := by decide +kernel
theorem dX5_none_97 : decode cX5_none 97 = .ok (.iinc 2 1, 3) := by decide +kernel
theorem dX5_none_100 : decode cX5_none 100 = .ok (.iinc 3 1, 3) := by decide +kernel
theorem dX5_none_103 : decode cX5_none 103 = .ok (.goto (-94), 3) := by decide +kernel
theorem dX5_none_106 : decode cX5_none 106 = .ok (.iconst 0, 1) := by decide +kernel
theorem dX5_none_107 : decode cX5_none 107 = .ok (.ireturn, 1) := by decide +kernel
theorem dX5_best_0 : decode cX5_best 0 = .ok (.aload_n 0, 1) := by decide +kernel
theorem dX5_best_1 : decode cX5_best 1 = .ok (.iconst 0, 1) := by decide +kernel
theorem dX5_best_2 : decode cX5_best 2 = .ok (.putfield 62, 3) := by decide +kernel
theorem dX5_best_5 : decode cX5_best 5 = .ok (.iconst 0, 1) := by decide +kernel
theorem dX5_best_6 : decode cX5_best 6 = .ok (.istore 4, 2) := by decide +kernel
theorem dX5_best_8 : decode cX5_best 8 = .ok (.iconst 0, 1) := by decide +kernel
theorem dX5_best_9 : decode cX5_best 9 = .ok (.istore 5, 2) := by decide +kernel
theorem dX5_best_11 : decode cX5_best 11 = .ok (.iload 5, 2) := by decide +kernel
theorem dX5_best_13 : decode cX5_best 13 = .ok (.aload_n 0, 1) := by decide +kernel
theorem dX5_best_14 : decode cX5_best 14 = .ok (.getfield 92, 3) := by decide +kernel
theorem dX5_best_17 : decode cX5_best 17 = .ok (.if_icmp .ge 78, 3) := by decide +kernel
theorem dX5_best_20 : decode cX5_best 20 = .ok (.iload_n 3, 1) := by decide +kernel
theorem dX5_best_21 : decode cX5_best 21 = .ok (.ifCond .lt 74, 3) := by decide +kernel
theorem dX5_best_24 : decode cX5_best 24 = .ok (.iload_n 1, 1) := by decide +kernel
theorem dX5_best_25 : decode cX5_best 25 = .ok (.ifCond .lt 70, 3) := by decide +kernel
theorem dX5_best_28 : decode cX5_best 28 = .ok (.iload_n 1, 1) := by decide +kernel
theorem dX5_best_29 : decode cX5_best 29 = .ok (.iconst 2, 1) := by decide +kernel
theorem dX5_best_30 : decode cX5_best 30 = .ok (.if_icmp .ge 65, 3) := by decide +kernel
theorem dX5_best_33 : decode cX5_best 33 = .ok (.iload_n 1, 1) := by decide +kernel
theorem dX5_best_34 : decode cX5_best 34 = .ok (.ifCond .ne 13, 3) := by decide +kernel
theorem dX5_best_37 : decode cX5_best 37 = .ok (.aload_n 0, 1) := by decide +kernel
theorem dX5_best_38 : decode cX5_best 38 = .ok (.getfield 41, 3) := by decide +kernel
theorem dX5_best_41 : decode cX5_best 41 = .ok (.iload 5, 2) := by decide +kernel
theorem dX5_best_43 : decode cX5_best 43 = .ok (.iaload, 1) := by decide +kernel
theorem dX5_best_44 : decode cX5_best 44 = .ok (.goto 10, 3) := by decide +kernel
theorem dX5_best_47 : decode cX5_best 47 = .ok (.aload_n 0, 1) := by decide +kernel
theorem dX5_best_48 : decode cX5_best 48 = .ok (.getfield 44, 3) := by decide +kernel
theorem dX5_best_51 : decode cX5_best 51 = .ok (.iload 5, 2) := by decide +kernel
theorem dX5_best_53 : decode cX5_best 53 = .ok (.iaload, 1) := by decide +kernel
theorem dX5_best_54 : decode cX5_best 54 = .ok (.iload_n 2, 1) := by decide +kernel
theorem dX5_best_55 : decode cX5_best 55 = .ok (.if_icmp .ne 34, 3) := by decide +kernel
theorem dX5_best_58 : decode cX5_best 58 = .ok (.iload 4, 2) := by decide +kernel
theorem dX5_best_60 : decode cX5_best 60 = .ok (.iload_n 3, 1) := by decide +kernel
theorem dX5_best_61 : decode cX5_best 61 = .ok (.if_icmp .ne 25, 3) := by decide +kernel
theorem dX5_best_64 : decode cX5_best 64 = .ok (.iload_n 1, 1) := by decide +kernel
theorem dX5_best_65 : decode cX5_best 65 = .ok (.ifCond .ne 13, 3) := by decide +kernel
theorem dX5_best_68 : decode cX5_best 68 = .ok (.aload_n 0, 1) := by decide +kernel
theorem dX5_best_69 : decode cX5_best 69 = .ok (.getfield 44, 3) := by decide +kernel
theorem dX5_best_72 : decode cX5_best 72 = .ok (.iload 5, 2) := by decide +kernel
theorem dX5_best_74 : decode cX5_best 74 = .ok (.iaload, 1) := by decide +kernel
theorem dX5_best_75 : decode cX5_best 75 = .ok (.goto 10, 3) := by decide +kernel
theorem dX5_best_78 : decode cX5_best 78 = .ok (.aload_n 0, 1) := by decide +kernel
theorem dX5_best_79 : decode cX5_best 79 = .ok (.getfield 41, 3) := by decide +kernel
theorem dX5_best_82 : decode cX5_best 82 = .ok (.iload 5, 2) := by decide +kernel
theorem dX5_best_84 : decode cX5_best 84 = .ok (.iaload, 1) := by decide +kernel
theorem dX5_best_85 : decode cX5_best 85 = .ok (.ireturn, 1) := by decide +kernel
theorem dX5_best_86 : decode cX5_best 86 = .ok (.iinc 4 1, 3) := by decide +kernel
theorem dX5_best_89 : decode cX5_best 89 = .ok (.iinc 5 1, 3) := by decide +kernel
theorem dX5_best_92 : decode cX5_best 92 = .ok (.goto (-81), 3) := by decide +kernel
theorem dX5_best_95 : decode cX5_best 95 = .ok (.iconst 0, 1) := by decide +kernel
theorem dX5_best_96 : decode cX5_best 96 = .ok (.ireturn, 1) := by decide +kernel
