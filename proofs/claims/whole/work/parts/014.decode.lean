theorem dX6_isPair_23 : decode cX6_isPair 23 = .ok (.iconst 0, 1) := by decide +kernel
theorem dX6_isPair_24 : decode cX6_isPair 24 = .ok (.ireturn, 1) := by decide +kernel
set_option maxRecDepth 20000 in
theorem ggX6_both_X6_isPair : GoodIn wsX6_both wsX6_isPair := goodIn_r _ [9, 10, 11, 8, 12, 13, 14, 15, 16] (by decide +kernel) (by decide +kernel)
set_option maxRecDepth 20000 in
theorem gX6_both_X6_isPair : GoodIn wsX6_both (va_wsS RX6 177 yX6_isPair wsX6_isPair) := goodIn_app (goodIn_of _ (by decide +kernel)) ggX6_both_X6_isPair
set_option maxRecDepth 20000 in
theorem ggX6_both_X6_in : GoodIn wsX6_both wsX6_in := goodIn_r _ [16] (by decide +kernel) (by decide +kernel)
set_option maxRecDepth 20000 in
theorem gX6_both_X6_in : GoodIn wsX6_both (va_wsS RX6 92 yX6_in wsX6_in) := goodIn_app (goodIn_of _ (by decide +kernel)) ggX6_both_X6_in
set_option maxRecDepth 20000 in
theorem ggX6_both_X6_findBoth : GoodIn wsX6_both wsX6_findBoth := goodIn_r _ [20, 2, 3, 4, 5, 21, 22, 23, 24, 25, 26, 27, 28, 29, 30, 31, 32, 33, 34, 35, 36, 37, 38, 39, 40, 41, 42, 43, 44, 45, 46, 47, 48, 49, 50, 51, 52, 53, 54, 55, 56, 57, 58, 59, 60, 61] (by decide +kernel) (by decide +kernel)
set_option maxRecDepth 20000 in
theorem gX6_both_X6_findBoth : GoodIn wsX6_both (wsV RX6 183 RX6 yX6_findBoth wsX6_findBoth) := goodIn_app (goodIn_of _ (by decide +kernel)) ggX6_both_X6_findBoth
theorem dX6_both_0 : decode cX6_both 0 = .ok (.iload_n 1, 1) := by decide +kernel
theorem dX6_both_1 : decode cX6_both 1 = .ok (.iload_n 2, 1) := by decide +kernel
theorem dX6_both_2 : decode cX6_both 2 = .ok (.invokestatic 177, 3) := by decide +kernel
theorem dX6_both_5 : decode cX6_both 5 = .ok (.ifCond .eq 15, 3) := by decide +kernel
theorem dX6_both_8 : decode cX6_both 8 = .ok (.iload_n 3, 1) := by decide +kernel
theorem dX6_both_9 : decode cX6_both 9 = .ok (.i2l, 1) := by decide +kernel
theorem dX6_both_10 : decode cX6_both 10 = .ok (.lconst 0, 1) := by decide +kernel
theorem dX6_both_11 : decode cX6_both 11 = .ok (.ldc2_w 181, 3) := by decide +kernel
theorem dX6_both_14 : decode cX6_both 14 = .ok (.invokestatic 92, 3) := by decide +kernel
theorem dX6_both_17 : decode cX6_both 17 = .ok (.ifCond .ne 6, 3) := by decide +kernel
theorem dX6_both_20 : decode cX6_both 20 = .ok (.bipush (-2), 2) := by decide +kernel
theorem dX6_both_22 : decode cX6_both 22 = .ok (.ireturn, 1) := by decide +kernel
theorem dX6_both_23 : decode cX6_both 23 = .ok (.aload_n 0, 1) := by decide +kernel
theorem dX6_both_24 : decode cX6_both 24 = .ok (.iload_n 1, 1) := by decide +kernel
theorem dX6_both_25 : decode cX6_both 25 = .ok (.iload_n 2, 1) := by decide +kernel
theorem dX6_both_26 : decode cX6_both 26 = .ok (.invokevirtual 183, 3) := by decide +kernel
theorem dX6_both_29 : decode cX6_both 29 = .ok (.iload_n 3, 1) := by decide +kernel
theorem dX6_both_30 : decode cX6_both 30 = .ok (.ifCond .ne 10, 3) := by decide +kernel
theorem dX6_both_33 : decode cX6_both 33 = .ok (.aload_n 0, 1) := by decide +kernel
theorem dX6_both_34 : decode cX6_both 34 = .ok (.getfield 165, 3) := by decide +kernel
theorem dX6_both_37 : decode cX6_both 37 = .ok (.goto 31, 3) := by decide +kernel
theorem dX6_both_40 : decode cX6_both 40 = .ok (.iload_n 3, 1) := by decide +kernel
theorem dX6_both_41 : decode cX6_both 41 = .ok (.iconst 1, 1) := by decide +kernel
theorem dX6_both_42 : decode cX6_both 42 = .ok (.if_icmp .ne 10, 3) := by decide +kernel
theorem dX6_both_45 : decode cX6_both 45 = .ok (.aload_n 0, 1) := by decide +kernel
theorem dX6_both_46 : decode cX6_both 46 = .ok (.getfield 168, 3) := by decide +kernel
theorem dX6_both_49 : decode cX6_both 49 = .ok (.goto 19, 3) := by decide +kernel
theorem dX6_both_52 : decode cX6_both 52 = .ok (.iload_n 3, 1) := by decide +kernel
theorem dX6_both_53 : decode cX6_both 53 = .ok (.iconst 2, 1) := by decide +kernel
theorem dX6_both_54 : decode cX6_both 54 = .ok (.if_icmp .ne 10, 3) := by decide +kernel
theorem dX6_both_57 : decode cX6_both 57 = .ok (.aload_n 0, 1) := by decide +kernel
theorem dX6_both_58 : decode cX6_both 58 = .ok (.getfield 171, 3) := by decide +kernel
theorem dX6_both_61 : decode cX6_both 61 = .ok (.goto 7, 3) := by decide +kernel
theorem dX6_both_64 : decode cX6_both 64 = .ok (.aload_n 0, 1) := by decide +kernel
theorem dX6_both_65 : decode cX6_both 65 = .ok (.getfield 174, 3) := by decide +kernel
theorem dX6_both_68 : decode cX6_both 68 = .ok (.ireturn, 1) := by decide +kernel
set_option maxRecDepth 20000 in
theorem ggX6_choose_X6_in : GoodIn wsX6_choose wsX6_in := goodIn_r _ [5] (by decide +kernel) (by decide +kernel)
set_option maxRecDepth 20000 in
theorem gX6_choose_X6_in : GoodIn wsX6_choose (va_wsS RX6 92 yX6_in wsX6_in) := goodIn_app (goodIn_of _ (by decide +kernel)) ggX6_choose_X6_in
theorem dX6_choose_0 : decode cX6_choose 0 = .ok (.iload_n 2, 1) := by decide +kernel
theorem dX6_choose_1 : decode cX6_choose 1 = .ok (.i2l, 1) := by decide +kernel
theorem dX6_choose_2 : decode cX6_choose 2 = .ok (.lconst 0, 1) := by decide +kernel
theorem dX6_choose_3 : decode cX6_choose 3 = .ok (.iload_n 1, 1) := by decide +kernel
theorem dX6_choose_4 : decode cX6_choose 4 = .ok (.i2l, 1) := by decide +kernel
theorem dX6_choose_5 : decode cX6_choose 5 = .ok (.invokestatic 92, 3) := by decide +kernel
theorem dX6_choose_8 : decode cX6_choose 8 = .ok (.ifCond .eq 17, 3) := by decide +kernel
theorem dX6_choose_11 : decode cX6_choose 11 = .ok (.aload_n 0, 1) := by decide +kernel
theorem dX6_choose_12 : decode cX6_choose 12 = .ok (.getfield 71, 3) := by decide +kernel
theorem dX6_choose_15 : decode cX6_choose 15 = .ok (.bipush 41, 2) := by decide +kernel
theorem dX6_choose_17 : decode cX6_choose 17 = .ok (.iload_n 1, 1) := by decide +kernel
theorem dX6_choose_18 : decode cX6_choose 18 = .ok (.imul, 1) := by decide +kernel
theorem dX6_choose_19 : decode cX6_choose 19 = .ok (.iload_n 2, 1) := by decide +kernel
theorem dX6_choose_20 : decode cX6_choose 20 = .ok (.iadd, 1) := by decide +kernel
theorem dX6_choose_21 : decode cX6_choose 21 = .ok (.laload, 1) := by decide +kernel
theorem dX6_choose_22 : decode cX6_choose 22 = .ok (.goto 4, 3) := by decide +kernel
theorem dX6_choose_25 : decode cX6_choose 25 = .ok (.lconst 0, 1) := by decide +kernel
theorem dX6_choose_26 : decode cX6_choose 26 = .ok (.lreturn, 1) := by decide +kernel
theorem dX6_gcd_0 : decode cX6_gcd 0 = .ok (.lload_n 0, 1) := by decide +kernel
theorem dX6_gcd_1 : decode cX6_gcd 1 = .ok (.lstore 4, 2) := by decide +kernel
theorem dX6_gcd_3 : decode cX6_gcd 3 = .ok (.lload_n 2, 1) := by decide +kernel
theorem dX6_gcd_4 : decode cX6_gcd 4 = .ok (.lstore 6, 2) := by decide +kernel
theorem dX6_gcd_6 : decode cX6_gcd 6 = .ok (.lload 6, 2) := by decide +kernel
theorem dX6_gcd_8 : decode cX6_gcd 8 = .ok (.lconst 0, 1) := by decide +kernel
theorem dX6_gcd_9 : decode cX6_gcd 9 = .ok (.lcmp, 1) := by decide +kernel
theorem dX6_gcd_10 : decode cX6_gcd 10 = .ok (.ifCond .eq 21, 3) := by decide +kernel
theorem dX6_gcd_13 : decode cX6_gcd 13 = .ok (.lload 4, 2) := by decide +kernel
theorem dX6_gcd_15 : decode cX6_gcd 15 = .ok (.lload 6, 2) := by decide +kernel
theorem dX6_gcd_17 : decode cX6_gcd 17 = .ok (.lrem, 1) := by decide +kernel
theorem dX6_gcd_18 : decode cX6_gcd 18 = .ok (.lstore 8, 2) := by decide +kernel
theorem dX6_gcd_20 : decode cX6_gcd 20 = .ok (.lload 6, 2) := by decide +kernel
theorem dX6_gcd_22 : decode cX6_gcd 22 = .ok (.lstore 4, 2) := by decide +kernel
theorem dX6_gcd_24 : decode cX6_gcd 24 = .ok (.lload 8, 2) := by decide +kernel
theorem dX6_gcd_26 : decode cX6_gcd 26 = .ok (.lstore 6, 2) := by decide +kernel
theorem dX6_gcd_28 : decode cX6_gcd 28 = .ok (.goto (-22), 3) := by decide +kernel
theorem dX6_gcd_31 : decode cX6_gcd 31 = .ok (.lload 4, 2) := by decide +kernel
theorem dX6_gcd_33 : decode cX6_gcd 33 = .ok (.lreturn, 1) := by decide +kernel
set_option maxRecDepth 20000 in
theorem ggX6_findChance_X6_findBoth : GoodIn wsX6_findChance wsX6_findBoth := goodIn_r _ [11, 4, 3, 5, 2, 12, 13, 14, 26, 27, 28, 29, 30, 31, 32, 33, 34, 35, 36, 37, 38, 39, 40, 41, 42, 43, 44, 45, 46, 47, 48, 49, 50, 51, 52, 53, 54, 55, 56, 57, 58, 59, 60, 61, 62, 63] (by decide +kernel) (by decide +kernel)
set_option maxRecDepth 20000 in
theorem gX6_findChance_X6_findBoth : GoodIn wsX6_findChance (wsV RX6 183 RX6 yX6_findBoth wsX6_findBoth) := goodIn_app (goodIn_of _ (by decide +kernel)) ggX6_findChance_X6_findBoth
set_option maxRecDepth 20000 in
theorem ggX6_findChance_X6_choose : GoodIn wsX6_findChance wsX6_choose := goodIn_r _ [18, 19, 20, 21, 10, 22, 26, 27, 28, 29, 30, 31, 32, 33, 34, 35, 36, 37, 38, 39, 40, 41, 42, 43, 44, 45, 46, 47, 48, 49, 50, 51, 52, 53, 54, 55, 56, 57, 58, 59, 60, 61, 62, 63] (by decide +kernel) (by decide +kernel)
set_option maxRecDepth 20000 in
theorem gX6_findChance_X6_choose : GoodIn wsX6_findChance (wsV RX6 190 RX6 yX6_choose wsX6_choose) := goodIn_app (goodIn_of _ (by decide +kernel)) ggX6_findChance_X6_choose
set_option maxRecDepth 20000 in
theorem ggX6_findChance_X6_gcd : GoodIn wsX6_findChance wsX6_gcd := goodIn_r _ [25] (by decide +kernel) (by decide +kernel)
set_option maxRecDepth 20000 in
theorem gX6_findChance_X6_gcd : GoodIn wsX6_findChance (va_wsS RX6 197 yX6_gcd wsX6_gcd) := goodIn_app (goodIn_of _ (by decide +kernel)) ggX6_findChance_X6_gcd
theorem dX6_findChance_0 : decode cX6_findChance 0 = .ok (.aload_n 0, 1) := by decide +kernel
theorem dX6_findChance_1 : decode cX6_findChance 1 = .ok (.iload_n 1, 1) := by decide +kernel
theorem dX6_findChance_2 : decode cX6_findChance 2 = .ok (.iload_n 2, 1) := by decide +kernel
theorem dX6_findChance_3 : decode cX6_findChance 3 = .ok (.invokevirtual 183, 3) := by decide +kernel
theorem dX6_findChance_6 : decode cX6_findChance 6 = .ok (.aload_n 0, 1) := by decide +kernel
theorem dX6_findChance_7 : decode cX6_findChance 7 = .ok (.lconst 0, 1) := by decide +kernel
theorem dX6_findChance_8 : decode cX6_findChance 8 = .ok (.putfield 186, 3) := by decide +kernel
theorem dX6_findChance_11 : decode cX6_findChance 11 = .ok (.iconst 0, 1) := by decide +kernel
theorem dX6_findChance_12 : decode cX6_findChance 12 = .ok (.istore_n 3, 1) := by decide +kernel
theorem dX6_findChance_13 : decode cX6_findChance 13 = .ok (.iload_n 3, 1) := by decide +kernel
theorem dX6_findChance_14 : decode cX6_findChance 14 = .ok (.aload_n 0, 1) := by decide +kernel
theorem dX6_findChance_15 : decode cX6_findChance 15 = .ok (.getfield 174, 3) := by decide +kernel
theorem dX6_findChance_18 : decode cX6_findChance 18 = .ok (.if_icmp .gt 47, 3) := by decide +kernel
theorem dX6_findChance_21 : decode cX6_findChance 21 = .ok (.aload_n 0, 1) := by decide +kernel
theorem dX6_findChance_22 : decode cX6_findChance 22 = .ok (.dup, 1) := by decide +kernel
theorem dX6_findChance_23 : decode cX6_findChance 23 = .ok (.getfield 186, 3) := by decide +kernel
theorem dX6_findChance_26 : decode cX6_findChance 26 = .ok (.aload_n 0, 1) := by decide +kernel
theorem dX6_findChance_27 : decode cX6_findChance 27 = .ok (.aload_n 0, 1) := by decide +kernel
theorem dX6_findChance_28 : decode cX6_findChance 28 = .ok (.getfield 168, 3) := by decide +kernel
theorem dX6_findChance_31 : decode cX6_findChance 31 = .ok (.iload_n 3, 1) := by decide +kernel
theorem dX6_findChance_32 : decode cX6_findChance 32 = .ok (.invokevirtual 190, 3) := by decide +kernel
theorem dX6_findChance_35 : decode cX6_findChance 35 = .ok (.aload_n 0, 1) := by decide +kernel
theorem dX6_findChance_36 : decode cX6_findChance 36 = .ok (.aload_n 0, 1) := by decide +kernel
theorem dX6_findChance_37 : decode cX6_findChance 37 = .ok (.getfield 165, 3) := by decide +kernel
theorem dX6_findChance_40 : decode cX6_findChance 40 = .ok (.aload_n 0, 1) := by decide +kernel
theorem dX6_findChance_41 : decode cX6_findChance 41 = .ok (.getfield 168, 3) := by decide +kernel
theorem dX6_findChance_44 : decode cX6_findChance 44 = .ok (.isub, 1) := by decide +kernel
theorem dX6_findChance_45 : decode cX6_findChance 45 = .ok (.aload_n 0, 1) := by decide +kernel
theorem dX6_findChance_46 : decode cX6_findChance 46 = .ok (.getfield 171, 3) := by decide +kernel
theorem dX6_findChance_49 : decode cX6_findChance 49 = .ok (.iload_n 3, 1) := by decide +kernel
theorem dX6_findChance_50 : decode cX6_findChance 50 = .ok (.isub, 1) := by decide +kernel
theorem dX6_findChance_51 : decode cX6_findChance 51 = .ok (.invokevirtual 190, 3) := by decide +kernel
theorem dX6_findChance_54 : decode cX6_findChance 54 = .ok (.lmul, 1) := by decide +kernel
theorem dX6_findChance_55 : decode cX6_findChance 55 = .ok (.ladd, 1) := by decide +kernel
theorem dX6_findChance_56 : decode cX6_findChance 56 = .ok (.putfield 186, 3) := by decide +kernel
theorem dX6_findChance_59 : decode cX6_findChance 59 = .ok (.iinc 3 1, 3) := by decide +kernel
theorem dX6_findChance_62 : decode cX6_findChance 62 = .ok (.goto (-49), 3) := by decide +kernel
theorem dX6_findChance_65 : decode cX6_findChance 65 = .ok (.aload_n 0, 1) := by decide +kernel
theorem dX6_findChance_66 : decode cX6_findChance 66 = .ok (.aload_n 0, 1) := by decide +kernel
theorem dX6_findChance_67 : decode cX6_findChance 67 = .ok (.aload_n 0, 1) := by decide +kernel
theorem dX6_findChance_68 : decode cX6_findChance 68 = .ok (.getfield 165, 3) := by decide +kernel
theorem dX6_findChance_71 : decode cX6_findChance 71 = .ok (.aload_n 0, 1) := by decide +kernel
theorem dX6_findChance_72 : decode cX6_findChance 72 = .ok (.getfield 171, 3) := by decide +kernel
theorem dX6_findChance_75 : decode cX6_findChance 75 = .ok (.invokevirtual 190, 3) := by decide +kernel
theorem dX6_findChance_78 : decode cX6_findChance 78 = .ok (.putfield 194, 3) := by decide +kernel
theorem dX6_findChance_81 : decode cX6_findChance 81 = .ok (.aload_n 0, 1) := by decide +kernel
theorem dX6_findChance_82 : decode cX6_findChance 82 = .ok (.getfield 186, 3) := by decide +kernel
theorem dX6_findChance_85 : decode cX6_findChance 85 = .ok (.aload_n 0, 1) := by decide +kernel
theorem dX6_findChance_86 : decode cX6_findChance 86 = .ok (.getfield 194, 3) := by decide +kernel
theorem dX6_findChance_89 : decode cX6_findChance 89 = .ok (.invokestatic 197, 3) := by decide +kernel
theorem dX6_findChance_92 : decode cX6_findChance 92 = .ok (.lstore_n 3, 1) := by decide +kernel
theorem dX6_findChance_93 : decode cX6_findChance 93 = .ok (.aload_n 0, 1) := by decide +kernel
theorem dX6_findChance_94 : decode cX6_findChance 94 = .ok (.dup, 1) := by decide +kernel
theorem dX6_findChance_95 : decode cX6_findChance 95 = .ok (.getfield 186, 3) := by decide +kernel
theorem dX6_findChance_98 : decode cX6_findChance 98 = .ok (.lload_n 3, 1) := by decide +kernel
theorem dX6_findChance_99 : decode cX6_findChance 99 = .ok (.ldiv, 1) := by decide +kernel
theorem dX6_findChance_100 : decode cX6_findChance 100 = .ok (.putfield 186, 3) := by decide +kernel
theorem dX6_findChance_103 : decode cX6_findChance 103 = .ok (.aload_n 0, 1) := by decide +kernel
theorem dX6_findChance_104 : decode cX6_findChance 104 = .ok (.dup, 1) := by decide +kernel
theorem dX6_findChance_105 : decode cX6_findChance 105 = .ok (.getfield 194, 3) := by decide +kernel
theorem dX6_findChance_108 : decode cX6_findChance 108 = .ok (.lload_n 3, 1) := by decide +kernel
theorem dX6_findChance_109 : decode cX6_findChance 109 = .ok (.ldiv, 1) := by decide +kernel
theorem dX6_findChance_110 : decode cX6_findChance 110 = .ok (.putfield 194, 3) := by decide +kernel
theorem dX6_findChance_113 : decode cX6_findChance 113 = .ok (.return_, 1) := by decide +kernel
set_option maxRecDepth 20000 in
theorem ggX6_chance_X6_isPair : GoodIn wsX6_chance wsX6_isPair := goodIn_r _ [7, 8, 9, 6, 10, 11, 12, 13, 14] (by decide +kernel) (by decide +kernel)
set_option maxRecDepth 20000 in
theorem gX6_chance_X6_isPair : GoodIn wsX6_chance (va_wsS RX6 177 yX6_isPair wsX6_isPair) := goodIn_app (goodIn_of _ (by decide +kernel)) ggX6_chance_X6_isPair
set_option maxRecDepth 20000 in
theorem ggX6_chance_X6_in : GoodIn wsX6_chance wsX6_in := goodIn_r _ [14] (by decide +kernel) (by decide +kernel)
set_option maxRecDepth 20000 in
theorem gX6_chance_X6_in : GoodIn wsX6_chance (va_wsS RX6 92 yX6_in wsX6_in) := goodIn_app (goodIn_of _ (by decide +kernel)) ggX6_chance_X6_in
set_option maxRecDepth 20000 in
theorem ggX6_chance_X6_findChance : GoodIn wsX6_chance wsX6_findChance := goodIn_r _ [18, 2, 19, 20, 21, 22, 3, 23, 24, 25, 6, 26, 27, 28, 29, 30, 31, 32, 33, 34, 12, 13, 14, 35, 36, 37, 38, 39, 40, 41, 42, 43, 44, 45, 46, 47, 48, 49, 50, 51, 52, 53, 54, 55, 56, 57, 58, 59, 60, 61, 62, 63, 64, 65, 66, 67, 68, 69, 70, 71, 72, 73, 74, 75] (by decide +kernel) (by decide +kernel)
set_option maxRecDepth 20000 in
theorem gX6_chance_X6_findChance : GoodIn wsX6_chance (wsV RX6 203 RX6 yX6_findChance wsX6_findChance) := goodIn_app (goodIn_of _ (by decide +kernel)) ggX6_chance_X6_findChance
theorem dX6_chance_0 : decode cX6_chance 0 = .ok (.iload_n 1, 1) := by decide +kernel
theorem dX6_chance_1 : decode cX6_chance 1 = .ok (.iload_n 2, 1) := by decide +kernel
theorem dX6_chance_2 : decode cX6_chance 2 = .ok (.invokestatic 177, 3) := by decide +kernel
theorem dX6_chance_5 : decode cX6_chance 5 = .ok (.ifCond .eq 13, 3) := by decide +kernel
theorem dX6_chance_8 : decode cX6_chance 8 = .ok (.iload_n 3, 1) := by decide +kernel
theorem dX6_chance_9 : decode cX6_chance 9 = .ok (.i2l, 1) := by decide +kernel
theorem dX6_chance_10 : decode cX6_chance 10 = .ok (.lconst 0, 1) := by decide +kernel
theorem dX6_chance_11 : decode cX6_chance 11 = .ok (.lconst 1, 1) := by decide +kernel
theorem dX6_chance_12 : decode cX6_chance 12 = .ok (.invokestatic 92, 3) := by decide +kernel
theorem dX6_chance_15 : decode cX6_chance 15 = .ok (.ifCond .ne 7, 3) := by decide +kernel
theorem dX6_chance_18 : decode cX6_chance 18 = .ok (.ldc2_w 201, 3) := by decide +kernel
theorem dX6_chance_21 : decode cX6_chance 21 = .ok (.lreturn, 1) := by decide +kernel
theorem dX6_chance_22 : decode cX6_chance 22 = .ok (.aload_n 0, 1) := by decide +kernel
theorem dX6_chance_23 : decode cX6_chance 23 = .ok (.iload_n 1, 1) := by decide +kernel
theorem dX6_chance_24 : decode cX6_chance 24 = .ok (.iload_n 2, 1) := by decide +kernel
theorem dX6_chance_25 : decode cX6_chance 25 = .ok (.invokevirtual 203, 3) := by decide +kernel
theorem dX6_chance_28 : decode cX6_chance 28 = .ok (.iload_n 3, 1) := by decide +kernel
theorem dX6_chance_29 : decode cX6_chance 29 = .ok (.ifCond .ne 10, 3) := by decide +kernel
theorem dX6_chance_32 : decode cX6_chance 32 = .ok (.aload_n 0, 1) := by decide +kernel
theorem dX6_chance_33 : decode cX6_chance 33 = .ok (.getfield 186, 3) := by decide +kernel
theorem dX6_chance_36 : decode cX6_chance 36 = .ok (.goto 7, 3) := by decide +kernel
theorem dX6_chance_39 : decode cX6_chance 39 = .ok (.aload_n 0, 1) := by decide +kernel
theorem dX6_chance_40 : decode cX6_chance 40 = .ok (.getfield 194, 3) := by decide +kernel
theorem dX6_chance_43 : decode cX6_chance 43 = .ok (.lreturn, 1) := by decide +kernel
theorem dX6_isLess_0 : decode cX6_isLess 0 = .ok (.lload_n 0, 1) := by decide +kernel
theorem dX6_isLess_1 : decode cX6_isLess 1 = .ok (.lstore 8, 2) := by decide +kernel
theorem dX6_isLess_3 : decode cX6_isLess 3 = .ok (.lload_n 2, 1) := by decide +kernel
theorem dX6_isLess_4 : decode cX6_isLess 4 = .ok (.lstore 10, 2) := by decide +kernel
theorem dX6_isLess_6 : decode cX6_isLess 6 = .ok (.lload 4, 2) := by decide +kernel
theorem dX6_isLess_8 : decode cX6_isLess 8 = .ok (.lstore 12, 2) := by decide +kernel
theorem dX6_isLess_10 : decode cX6_isLess 10 = .ok (.lload 6, 2) := by decide +kernel
theorem dX6_isLess_12 : decode cX6_isLess 12 = .ok (.lstore 14, 2) := by decide +kernel
theorem dX6_isLess_14 : decode cX6_isLess 14 = .ok (.lload 8, 2) := by decide +kernel
theorem dX6_isLess_16 : decode cX6_isLess 16 = .ok (.lload 10, 2) := by decide +kernel
theorem dX6_isLess_18 : decode cX6_isLess 18 = .ok (.ldiv, 1) := by decide +kernel
theorem dX6_isLess_19 : decode cX6_isLess 19 = .ok (.lload 12, 2) := by decide +kernel
theorem dX6_isLess_21 : decode cX6_isLess 21 = .ok (.lload 14, 2) := by decide +kernel
theorem dX6_isLess_23 : decode cX6_isLess 23 = .ok (.ldiv, 1) := by decide +kernel
theorem dX6_isLess_24 : decode cX6_isLess 24 = .ok (.lcmp, 1) := by decide +kernel
theorem dX6_isLess_25 : decode cX6_isLess 25 = .ok (.ifCond .ne 74, 3) := by decide +kernel
theorem dX6_isLess_28 : decode cX6_isLess 28 = .ok (.lload 8, 2) := by decide +kernel
theorem dX6_isLess_30 : decode cX6_isLess 30 = .ok (.lload 10, 2) := by decide +kernel
theorem dX6_isLess_32 : decode cX6_isLess 32 = .ok (.lrem, 1) := by decide +kernel
theorem dX6_isLess_33 : decode cX6_isLess 33 = .ok (.lstore 16, 2) := by decide +kernel
theorem dX6_isLess_35 : decode cX6_isLess 35 = .ok (.lload 12, 2) := by decide +kernel
theorem dX6_isLess_37 : decode cX6_isLess 37 = .ok (.lload 14, 2) := by decide +kernel
theorem dX6_isLess_39 : decode cX6_isLess 39 = .ok (.lrem, 1) := by decide +kernel
theorem dX6_isLess_40 : decode cX6_isLess 40 = .ok (.lstore 18, 2) := by decide +kernel
theorem dX6_isLess_42 : decode cX6_isLess 42 = .ok (.lload 16, 2) := by decide +kernel
theorem dX6_isLess_44 : decode cX6_isLess 44 = .ok (.lconst 0, 1) := by decide +kernel
theorem dX6_isLess_45 : decode cX6_isLess 45 = .ok (.lcmp, 1) := by decide +kernel
theorem dX6_isLess_46 : decode cX6_isLess 46 = .ok (.ifCond .eq 10, 3) := by decide +kernel
theorem dX6_isLess_49 : decode cX6_isLess 49 = .ok (.lload 18, 2) := by decide +kernel
theorem dX6_isLess_51 : decode cX6_isLess 51 = .ok (.lconst 0, 1) := by decide +kernel
theorem dX6_isLess_52 : decode cX6_isLess 52 = .ok (.lcmp, 1) := by decide +kernel
theorem dX6_isLess_53 : decode cX6_isLess 53 = .ok (.ifCond .ne 23, 3) := by decide +kernel
theorem dX6_isLess_56 : decode cX6_isLess 56 = .ok (.lload 16, 2) := by decide +kernel
theorem dX6_isLess_58 : decode cX6_isLess 58 = .ok (.lconst 0, 1) := by decide +kernel
theorem dX6_isLess_59 : decode cX6_isLess 59 = .ok (.lcmp, 1) := by decide +kernel
theorem dX6_isLess_60 : decode cX6_isLess 60 = .ok (.ifCond .ne 14, 3) := by decide +kernel
theorem dX6_isLess_63 : decode cX6_isLess 63 = .ok (.lload 18, 2) := by decide +kernel
theorem dX6_isLess_65 : decode cX6_isLess 65 = .ok (.lconst 0, 1) := by decide +kernel
theorem dX6_isLess_66 : decode cX6_isLess 66 = .ok (.lcmp, 1) := by decide +kernel
theorem dX6_isLess_67 : decode cX6_isLess 67 = .ok (.ifCond .le 7, 3) := by decide +kernel
theorem dX6_isLess_70 : decode cX6_isLess 70 = .ok (.iconst 1, 1) := by decide +kernel
theorem dX6_isLess_71 : decode cX6_isLess 71 = .ok (.goto 4, 3) := by decide +kernel
theorem dX6_isLess_74 : decode cX6_isLess 74 = .ok (.iconst 0, 1) := by decide +kernel
theorem dX6_isLess_75 : decode cX6_isLess 75 = .ok (.ireturn, 1) := by decide +kernel
theorem dX6_isLess_76 : decode cX6_isLess 76 = .ok (.lload 14, 2) := by decide +kernel
theorem dX6_isLess_78 : decode cX6_isLess 78 = .ok (.lstore 8, 2) := by decide +kernel
theorem dX6_isLess_80 : decode cX6_isLess 80 = .ok (.lload 16, 2) := by decide +kernel
theorem dX6_isLess_82 : decode cX6_isLess 82 = .ok (.lstore 14, 2) := by decide +kernel
theorem dX6_isLess_84 : decode cX6_isLess 84 = .ok (.lload 10, 2) := by decide +kernel
theorem dX6_isLess_86 : decode cX6_isLess 86 = .ok (.lstore 20, 2) := by decide +kernel
theorem dX6_isLess_88 : decode cX6_isLess 88 = .ok (.lload 18, 2) := by decide +kernel
theorem dX6_isLess_90 : decode cX6_isLess 90 = .ok (.lstore 10, 2) := by decide +kernel
theorem dX6_isLess_92 : decode cX6_isLess 92 = .ok (.lload 20, 2) := by decide +kernel
theorem dX6_isLess_94 : decode cX6_isLess 94 = .ok (.lstore 12, 2) := by decide +kernel
theorem dX6_isLess_96 : decode cX6_isLess 96 = .ok (.goto (-82), 3) := by decide +kernel
theorem dX6_isLess_99 : decode cX6_isLess 99 = .ok (.lload 8, 2) := by decide +kernel
theorem dX6_isLess_101 : decode cX6_isLess 101 = .ok (.lload 10, 2) := by decide +kernel
theorem dX6_isLess_103 : decode cX6_isLess 103 = .ok (.ldiv, 1) := by decide +kernel
theorem dX6_isLess_104 : decode cX6_isLess 104 = .ok (.lload 12, 2) := by decide +kernel
theorem dX6_isLess_106 : decode cX6_isLess 106 = .ok (.lload 14, 2) := by decide +kernel
theorem dX6_isLess_108 : decode cX6_isLess 108 = .ok (.ldiv, 1) := by decide +kernel
theorem dX6_isLess_109 : decode cX6_isLess 109 = .ok (.lcmp, 1) := by decide +kernel
theorem dX6_isLess_110 : decode cX6_isLess 110 = .ok (.ifCond .ge 7, 3) := by decide +kernel
theorem dX6_isLess_113 : decode cX6_isLess 113 = .ok (.iconst 1, 1) := by decide +kernel
theorem dX6_isLess_114 : decode cX6_isLess 114 = .ok (.goto 4, 3) := by decide +kernel
theorem dX6_isLess_117 : decode cX6_isLess 117 = .ok (.iconst 0, 1) := by decide +kernel
theorem dX6_isLess_118 : decode cX6_isLess 118 = .ok (.ireturn, 1) := by decide +kernel
set_option maxRecDepth 20000 in
theorem ggX6_shyest_X6_findChance : GoodIn wsX6_shyest wsX6_findChance := goodIn_r _ [7, 1, 8, 9, 10, 11, 2, 12, 13, 14, 6, 15, 16, 17, 18, 19, 20, 21, 22, 23, 24, 25, 26, 27, 28, 29, 33, 34, 35, 36, 37, 38, 39, 40, 41, 42, 43, 44, 45, 46, 47, 48, 49, 50, 51, 52, 53, 54, 55, 56, 57, 58, 59, 60, 61, 62, 63, 64, 65, 66, 67, 68, 69, 70] (by decide +kernel) (by decide +kernel)
set_option maxRecDepth 20000 in
theorem gX6_shyest_X6_findChance : GoodIn wsX6_shyest (wsV RX6 203 RX6 yX6_findChance wsX6_findChance) := goodIn_app (goodIn_of _ (by decide +kernel)) ggX6_shyest_X6_findChance
set_option maxRecDepth 20000 in
theorem ggX6_shyest_X6_isLess : GoodIn wsX6_shyest wsX6_isLess := goodIn_r _ [32] (by decide +kernel) (by decide +kernel)
set_option maxRecDepth 20000 in
theorem gX6_shyest_X6_isLess : GoodIn wsX6_shyest (va_wsS RX6 206 yX6_isLess wsX6_isLess) := goodIn_app (goodIn_of _ (by decide +kernel)) ggX6_shyest_X6_isLess
theorem dX6_shyest_0 : decode cX6_shyest 0 = .ok (.iconst (-1), 1) := by decide +kernel
theorem dX6_shyest_1 : decode cX6_shyest 1 = .ok (.istore_n 1, 1) := by decide +kernel
theorem dX6_shyest_2 : decode cX6_shyest 2 = .ok (.lconst 0, 1) := by decide +kernel
theorem dX6_shyest_3 : decode cX6_shyest 3 = .ok (.lstore_n 2, 1) := by decide +kernel
theorem dX6_shyest_4 : decode cX6_shyest 4 = .ok (.lconst 1, 1) := by decide +kernel
theorem dX6_shyest_5 : decode cX6_shyest 5 = .ok (.lstore 4, 2) := by decide +kernel
theorem dX6_shyest_7 : decode cX6_shyest 7 = .ok (.iconst 0, 1) := by decide +kernel
theorem dX6_shyest_8 : decode cX6_shyest 8 = .ok (.istore 6, 2) := by decide +kernel
theorem dX6_shyest_10 : decode cX6_shyest 10 = .ok (.iload 6, 2) := by decide +kernel
theorem dX6_shyest_12 : decode cX6_shyest 12 = .ok (.bipush 8, 2) := by decide +kernel
theorem dX6_shyest_14 : decode cX6_shyest 14 = .ok (.if_icmp .ge 77, 3) := by decide +kernel
theorem dX6_shyest_17 : decode cX6_shyest 17 = .ok (.iload 6, 2) := by decide +kernel
theorem dX6_shyest_19 : decode cX6_shyest 19 = .ok (.iconst 1, 1) := by decide +kernel
theorem dX6_shyest_20 : decode cX6_shyest 20 = .ok (.iadd, 1) := by decide +kernel
theorem dX6_shyest_21 : decode cX6_shyest 21 = .ok (.istore 7, 2) := by decide +kernel
theorem dX6_shyest_23 : decode cX6_shyest 23 = .ok (.iload 7, 2) := by decide +kernel
theorem dX6_shyest_25 : decode cX6_shyest 25 = .ok (.bipush 8, 2) := by decide +kernel
theorem dX6_shyest_27 : decode cX6_shyest 27 = .ok (.if_icmp .ge 58, 3) := by decide +kernel
theorem dX6_shyest_30 : decode cX6_shyest 30 = .ok (.aload_n 0, 1) := by decide +kernel
theorem dX6_shyest_31 : decode cX6_shyest 31 = .ok (.iload 6, 2) := by decide +kernel
theorem dX6_shyest_33 : decode cX6_shyest 33 = .ok (.iload 7, 2) := by decide +kernel
theorem dX6_shyest_35 : decode cX6_shyest 35 = .ok (.invokevirtual 203, 3) := by decide +kernel
theorem dX6_shyest_38 : decode cX6_shyest 38 = .ok (.iload_n 1, 1) := by decide +kernel
theorem dX6_shyest_39 : decode cX6_shyest 39 = .ok (.ifCond .lt 20, 3) := by decide +kernel
theorem dX6_shyest_42 : decode cX6_shyest 42 = .ok (.aload_n 0, 1) := by decide +kernel
theorem dX6_shyest_43 : decode cX6_shyest 43 = .ok (.getfield 186, 3) := by decide +kernel
theorem dX6_shyest_46 : decode cX6_shyest 46 = .ok (.aload_n 0, 1) := by decide +kernel
theorem dX6_shyest_47 : decode cX6_shyest 47 = .ok (.getfield 194, 3) := by decide +kernel
theorem dX6_shyest_50 : decode cX6_shyest 50 = .ok (.lload_n 2, 1) := by decide +kernel
theorem dX6_shyest_51 : decode cX6_shyest 51 = .ok (.lload 4, 2) := by decide +kernel
theorem dX6_shyest_53 : decode cX6_shyest 53 = .ok (.invokestatic 206, 3) := by decide +kernel
theorem dX6_shyest_56 : decode cX6_shyest 56 = .ok (.ifCond .eq 23, 3) := by decide +kernel
theorem dX6_shyest_59 : decode cX6_shyest 59 = .ok (.bipush 8, 2) := by decide +kernel
theorem dX6_shyest_61 : decode cX6_shyest 61 = .ok (.iload 6, 2) := by decide +kernel
theorem dX6_shyest_63 : decode cX6_shyest 63 = .ok (.imul, 1) := by decide +kernel
theorem dX6_shyest_64 : decode cX6_shyest 64 = .ok (.iload 7, 2) := by decide +kernel
theorem dX6_shyest_66 : decode cX6_shyest 66 = .ok (.iadd, 1) := by decide +kernel
theorem dX6_shyest_67 : decode cX6_shyest 67 = .ok (.istore_n 1, 1) := by decide +kernel
theorem dX6_shyest_68 : decode cX6_shyest 68 = .ok (.aload_n 0, 1) := by decide +kernel
theorem dX6_shyest_69 : decode cX6_shyest 69 = .ok (.getfield 186, 3) := by decide +kernel
theorem dX6_shyest_72 : decode cX6_shyest 72 = .ok (.lstore_n 2, 1) := by decide +kernel
theorem dX6_shyest_73 : decode cX6_shyest 73 = .ok (.aload_n 0, 1) := by decide +kernel
theorem dX6_shyest_74 : decode cX6_shyest 74 = .ok (.getfield 194, 3) := by decide +kernel
theorem dX6_shyest_77 : decode cX6_shyest 77 = .ok (.lstore 4, 2) := by decide +kernel
theorem dX6_shyest_79 : decode cX6_shyest 79 = .ok (.iinc 7 1, 3) := by decide +kernel
theorem dX6_shyest_82 : decode cX6_shyest 82 = .ok (.goto (-59), 3) := by decide +kernel
theorem dX6_shyest_85 : decode cX6_shyest 85 = .ok (.iinc 6 1, 3) := by decide +kernel
theorem dX6_shyest_88 : decode cX6_shyest 88 = .ok (.goto (-78), 3) := by decide +kernel
theorem dX6_shyest_91 : decode cX6_shyest 91 = .ok (.iload_n 1, 1) := by decide +kernel
theorem dX6_shyest_92 : decode cX6_shyest 92 = .ok (.ireturn, 1) := by decide +kernel
set_option maxRecDepth 20000 in
theorem ggX6_inside_X6_in : GoodIn wsX6_inside wsX6_in := goodIn_r _ [6] (by decide +kernel) (by decide +kernel)
set_option maxRecDepth 20000 in
theorem gX6_inside_X6_in : GoodIn wsX6_inside (va_wsS RX6 92 yX6_in wsX6_in) := goodIn_app (goodIn_of _ (by decide +kernel)) ggX6_inside_X6_in
set_option maxRecDepth 20000 in
theorem ggX6_inside_X6_bits : GoodIn wsX6_inside wsX6_bits := goodIn_r _ [9] (by decide +kernel) (by decide +kernel)
set_option maxRecDepth 20000 in
theorem gX6_inside_X6_bits : GoodIn wsX6_inside (va_wsS RX6 126 yX6_bits wsX6_bits) := goodIn_app (goodIn_of _ (by decide +kernel)) ggX6_inside_X6_bits
theorem dX6_inside_0 : decode cX6_inside 0 = .ok (.iload_n 1, 1) := by decide +kernel
theorem dX6_inside_1 : decode cX6_inside 1 = .ok (.i2l, 1) := by decide +kernel
theorem dX6_inside_2 : decode cX6_inside 2 = .ok (.lconst 0, 1) := by decide +kernel
theorem dX6_inside_3 : decode cX6_inside 3 = .ok (.ldc2_w 160, 3) := by decide +kernel
theorem dX6_inside_6 : decode cX6_inside 6 = .ok (.invokestatic 92, 3) := by decide +kernel
theorem dX6_inside_9 : decode cX6_inside 9 = .ok (.ifCond .eq 47, 3) := by decide +kernel
theorem dX6_inside_12 : decode cX6_inside 12 = .ok (.iload_n 1, 1) := by decide +kernel
theorem dX6_inside_13 : decode cX6_inside 13 = .ok (.invokestatic 126, 3) := by decide +kernel
theorem dX6_inside_16 : decode cX6_inside 16 = .ok (.iconst 2, 1) := by decide +kernel
theorem dX6_inside_17 : decode cX6_inside 17 = .ok (.if_icmp .lt 39, 3) := by decide +kernel
theorem dX6_inside_20 : decode cX6_inside 20 = .ok (.iload_n 2, 1) := by decide +kernel
theorem dX6_inside_21 : decode cX6_inside 21 = .ok (.i2l, 1) := by decide +kernel
theorem dX6_inside_22 : decode cX6_inside 22 = .ok (.lconst 0, 1) := by decide +kernel
theorem dX6_inside_23 : decode cX6_inside 23 = .ok (.ldc2_w 143, 3) := by decide +kernel
theorem dX6_inside_26 : decode cX6_inside 26 = .ok (.invokestatic 92, 3) := by decide +kernel
theorem dX6_inside_29 : decode cX6_inside 29 = .ok (.ifCond .eq 27, 3) := by decide +kernel
theorem dX6_inside_32 : decode cX6_inside 32 = .ok (.iload_n 3, 1) := by decide +kernel
theorem dX6_inside_33 : decode cX6_inside 33 = .ok (.i2l, 1) := by decide +kernel
theorem dX6_inside_34 : decode cX6_inside 34 = .ok (.iload_n 2, 1) := by decide +kernel
theorem dX6_inside_35 : decode cX6_inside 35 = .ok (.i2l, 1) := by decide +kernel
theorem dX6_inside_36 : decode cX6_inside 36 = .ok (.ldc2_w 143, 3) := by decide +kernel
theorem dX6_inside_39 : decode cX6_inside 39 = .ok (.invokestatic 92, 3) := by decide +kernel
theorem dX6_inside_42 : decode cX6_inside 42 = .ok (.ifCond .eq 14, 3) := by decide +kernel
theorem dX6_inside_45 : decode cX6_inside 45 = .ok (.iload 4, 2) := by decide +kernel
theorem dX6_inside_47 : decode cX6_inside 47 = .ok (.i2l, 1) := by decide +kernel
theorem dX6_inside_48 : decode cX6_inside 48 = .ok (.lconst 0, 1) := by decide +kernel
theorem dX6_inside_49 : decode cX6_inside 49 = .ok (.lconst 1, 1) := by decide +kernel
theorem dX6_inside_50 : decode cX6_inside 50 = .ok (.invokestatic 92, 3) := by decide +kernel
theorem dX6_inside_53 : decode cX6_inside 53 = .ok (.ifCond .ne 6, 3) := by decide +kernel
theorem dX6_inside_56 : decode cX6_inside 56 = .ok (.bipush (-2), 2) := by decide +kernel
theorem dX6_inside_58 : decode cX6_inside 58 = .ok (.ireturn, 1) := by decide +kernel
theorem dX6_inside_59 : decode cX6_inside 59 = .ok (.iload_n 3, 1) := by decide +kernel
theorem dX6_inside_60 : decode cX6_inside 60 = .ok (.iload_n 2, 1) := by decide +kernel
theorem dX6_inside_61 : decode cX6_inside 61 = .ok (.isub, 1) := by decide +kernel
theorem dX6_inside_62 : decode cX6_inside 62 = .ok (.iload_n 1, 1) := by decide +kernel
theorem dX6_inside_63 : decode cX6_inside 63 = .ok (.invokestatic 126, 3) := by decide +kernel
theorem dX6_inside_66 : decode cX6_inside 66 = .ok (.idiv, 1) := by decide +kernel
theorem dX6_inside_67 : decode cX6_inside 67 = .ok (.istore 5, 2) := by decide +kernel
theorem dX6_inside_69 : decode cX6_inside 69 = .ok (.iload 4, 2) := by decide +kernel
theorem dX6_inside_71 : decode cX6_inside 71 = .ok (.ifCond .ne 8, 3) := by decide +kernel
theorem dX6_inside_74 : decode cX6_inside 74 = .ok (.iload 5, 2) := by decide +kernel
theorem dX6_inside_76 : decode cX6_inside 76 = .ok (.goto 16, 3) := by decide +kernel
theorem dX6_inside_79 : decode cX6_inside 79 = .ok (.iload_n 3, 1) := by decide +kernel
theorem dX6_inside_80 : decode cX6_inside 80 = .ok (.iload_n 2, 1) := by decide +kernel
theorem dX6_inside_81 : decode cX6_inside 81 = .ok (.isub, 1) := by decide +kernel
theorem dX6_inside_82 : decode cX6_inside 82 = .ok (.iload 5, 2) := by decide +kernel
theorem dX6_inside_84 : decode cX6_inside 84 = .ok (.iload_n 1, 1) := by decide +kernel
theorem dX6_inside_85 : decode cX6_inside 85 = .ok (.invokestatic 126, 3) := by decide +kernel
theorem dX6_inside_88 : decode cX6_inside 88 = .ok (.iconst 1, 1) := by decide +kernel
theorem dX6_inside_89 : decode cX6_inside 89 = .ok (.isub, 1) := by decide +kernel
theorem dX6_inside_90 : decode cX6_inside 90 = .ok (.imul, 1) := by decide +kernel
theorem dX6_inside_91 : decode cX6_inside 91 = .ok (.isub, 1) := by decide +kernel
theorem dX6_inside_92 : decode cX6_inside 92 = .ok (.ireturn, 1) := by decide +kernel
set_option maxRecDepth 20000 in
theorem ggX6_entry_X6_in : GoodIn wsX6_entry wsX6_in := goodIn_r _ [7] (by decide +kernel) (by decide +kernel)
set_option maxRecDepth 20000 in
theorem gX6_entry_X6_in : GoodIn wsX6_entry (va_wsS RX6 92 yX6_in wsX6_in) := goodIn_app (goodIn_of _ (by decide +kernel)) ggX6_entry_X6_in
theorem dX6_entry_0 : decode cX6_entry 0 = .ok (.iload_n 1, 1) := by decide +kernel
theorem dX6_entry_1 : decode cX6_entry 1 = .ok (.i2l, 1) := by decide +kernel
theorem dX6_entry_2 : decode cX6_entry 2 = .ok (.lconst 0, 1) := by decide +kernel
theorem dX6_entry_3 : decode cX6_entry 3 = .ok (.ldc2_w 210, 3) := by decide +kernel
theorem dX6_entry_6 : decode cX6_entry 6 = .ok (.invokestatic 92, 3) := by decide +kernel
theorem dX6_entry_9 : decode cX6_entry 9 = .ok (.ifCond .ne 6, 3) := by decide +kernel
theorem dX6_entry_12 : decode cX6_entry 12 = .ok (.bipush (-2), 2) := by decide +kernel
theorem dX6_entry_14 : decode cX6_entry 14 = .ok (.ireturn, 1) := by decide +kernel
theorem dX6_entry_15 : decode cX6_entry 15 = .ok (.aload_n 0, 1) := by decide +kernel
theorem dX6_entry_16 : decode cX6_entry 16 = .ok (.getfield 212, 3) := by decide +kernel
theorem dX6_entry_19 : decode cX6_entry 19 = .ok (.bipush 10, 2) := by decide +kernel
theorem dX6_entry_21 : decode cX6_entry 21 = .ok (.if_icmp .ne 6, 3) := by decide +kernel
theorem dX6_entry_24 : decode cX6_entry 24 = .ok (.bipush (-4), 2) := by decide +kernel
theorem dX6_entry_26 : decode cX6_entry 26 = .ok (.ireturn, 1) := by decide +kernel
theorem dX6_entry_27 : decode cX6_entry 27 = .ok (.aload_n 0, 1) := by decide +kernel
theorem dX6_entry_28 : decode cX6_entry 28 = .ok (.getfield 75, 3) := by decide +kernel
theorem dX6_entry_31 : decode cX6_entry 31 = .ok (.aload_n 0, 1) := by decide +kernel
theorem dX6_entry_32 : decode cX6_entry 32 = .ok (.getfield 212, 3) := by decide +kernel
theorem dX6_entry_35 : decode cX6_entry 35 = .ok (.iload_n 1, 1) := by decide +kernel
theorem dX6_entry_36 : decode cX6_entry 36 = .ok (.iastore, 1) := by decide +kernel
theorem dX6_entry_37 : decode cX6_entry 37 = .ok (.aload_n 0, 1) := by decide +kernel
theorem dX6_entry_38 : decode cX6_entry 38 = .ok (.dup, 1) := by decide +kernel
theorem dX6_entry_39 : decode cX6_entry 39 = .ok (.getfield 212, 3) := by decide +kernel
theorem dX6_entry_42 : decode cX6_entry 42 = .ok (.iconst 1, 1) := by decide +kernel
theorem dX6_entry_43 : decode cX6_entry 43 = .ok (.iadd, 1) := by decide +kernel
theorem dX6_entry_44 : decode cX6_entry 44 = .ok (.putfield 212, 3) := by decide +kernel
theorem dX6_entry_47 : decode cX6_entry 47 = .ok (.aload_n 0, 1) := by decide +kernel
theorem dX6_entry_48 : decode cX6_entry 48 = .ok (.getfield 212, 3) := by decide +kernel
theorem dX6_entry_51 : decode cX6_entry 51 = .ok (.iconst 1, 1) := by decide +kernel
theorem dX6_entry_52 : decode cX6_entry 52 = .ok (.isub, 1) := by decide +kernel
theorem dX6_entry_53 : decode cX6_entry 53 = .ok (.ireturn, 1) := by decide +kernel
set_option maxRecDepth 20000 in
theorem ggX6_mark_X6_noThing : GoodIn wsX6_mark wsX6_noThing := goodIn_r _ [9, 10, 11, 12, 8, 13, 14, 15, 16, 17, 18, 19, 20, 21, 22, 23, 24, 25, 26, 27, 28, 29, 30, 31, 32, 33, 34, 35, 36, 37, 38, 39, 40, 41, 42, 43, 44, 45, 46, 47, 48, 49, 50, 51] (by decide +kernel) (by decide +kernel)
set_option maxRecDepth 20000 in
theorem gX6_mark_X6_noThing : GoodIn wsX6_mark (wsV RX6 107 RX6 yX6_noThing wsX6_noThing) := goodIn_app (goodIn_of _ (by decide +kernel)) ggX6_mark_X6_noThing
set_option maxRecDepth 20000 in
theorem ggX6_mark_X6_in : GoodIn wsX6_mark wsX6_in := goodIn_r _ [13] (by decide +kernel) (by decide +kernel)
set_option maxRecDepth 20000 in
theorem gX6_mark_X6_in : GoodIn wsX6_mark (va_wsS RX6 92 yX6_in wsX6_in) := goodIn_app (goodIn_of _ (by decide +kernel)) ggX6_mark_X6_in
theorem dX6_mark_0 : decode cX6_mark 0 = .ok (.aload_n 0, 1) := by decide +kernel
theorem dX6_mark_1 : decode cX6_mark 1 = .ok (.iload_n 1, 1) := by decide +kernel
theorem dX6_mark_2 : decode cX6_mark 2 = .ok (.invokevirtual 107, 3) := by decide +kernel
theorem dX6_mark_5 : decode cX6_mark 5 = .ok (.ifCond .ne 27, 3) := by decide +kernel
theorem dX6_mark_8 : decode cX6_mark 8 = .ok (.iload_n 2, 1) := by decide +kernel
theorem dX6_mark_9 : decode cX6_mark 9 = .ok (.i2l, 1) := by decide +kernel
theorem dX6_mark_10 : decode cX6_mark 10 = .ok (.lconst 0, 1) := by decide +kernel
theorem dX6_mark_11 : decode cX6_mark 11 = .ok (.ldc2_w 215, 3) := by decide +kernel
theorem dX6_mark_14 : decode cX6_mark 14 = .ok (.invokestatic 92, 3) := by decide +kernel
theorem dX6_mark_17 : decode cX6_mark 17 = .ok (.ifCond .eq 15, 3) := by decide +kernel
theorem dX6_mark_20 : decode cX6_mark 20 = .ok (.iload_n 3, 1) := by decide +kernel
theorem dX6_mark_21 : decode cX6_mark 21 = .ok (.i2l, 1) := by decide +kernel
theorem dX6_mark_22 : decode cX6_mark 22 = .ok (.lconst 0, 1) := by decide +kernel
theorem dX6_mark_23 : decode cX6_mark 23 = .ok (.ldc2_w 217, 3) := by decide +kernel
theorem dX6_mark_26 : decode cX6_mark 26 = .ok (.invokestatic 92, 3) := by decide +kernel
theorem dX6_mark_29 : decode cX6_mark 29 = .ok (.ifCond .ne 6, 3) := by decide +kernel
theorem dX6_mark_32 : decode cX6_mark 32 = .ok (.bipush (-2), 2) := by decide +kernel
theorem dX6_mark_34 : decode cX6_mark 34 = .ok (.ireturn, 1) := by decide +kernel
theorem dX6_mark_35 : decode cX6_mark 35 = .ok (.aload_n 0, 1) := by decide +kernel
theorem dX6_mark_36 : decode cX6_mark 36 = .ok (.getfield 28, 3) := by decide +kernel
theorem dX6_mark_39 : decode cX6_mark 39 = .ok (.iload_n 1, 1) := by decide +kernel
theorem dX6_mark_40 : decode cX6_mark 40 = .ok (.iaload, 1) := by decide +kernel
theorem dX6_mark_41 : decode cX6_mark 41 = .ok (.iload_n 2, 1) := by decide +kernel
theorem dX6_mark_42 : decode cX6_mark 42 = .ok (.ishr, 1) := by decide +kernel
theorem dX6_mark_43 : decode cX6_mark 43 = .ok (.iconst 1, 1) := by decide +kernel
theorem dX6_mark_44 : decode cX6_mark 44 = .ok (.iand, 1) := by decide +kernel
theorem dX6_mark_45 : decode cX6_mark 45 = .ok (.iconst 2, 1) := by decide +kernel
theorem dX6_mark_46 : decode cX6_mark 46 = .ok (.aload_n 0, 1) := by decide +kernel
theorem dX6_mark_47 : decode cX6_mark 47 = .ok (.getfield 31, 3) := by decide +kernel
theorem dX6_mark_50 : decode cX6_mark 50 = .ok (.iload_n 1, 1) := by decide +kernel
theorem dX6_mark_51 : decode cX6_mark 51 = .ok (.iaload, 1) := by decide +kernel
theorem dX6_mark_52 : decode cX6_mark 52 = .ok (.iload_n 2, 1) := by decide +kernel
theorem dX6_mark_53 : decode cX6_mark 53 = .ok (.ishr, 1) := by decide +kernel
theorem dX6_mark_54 : decode cX6_mark 54 = .ok (.iconst 1, 1) := by decide +kernel
theorem dX6_mark_55 : decode cX6_mark 55 = .ok (.iand, 1) := by decide +kernel
theorem dX6_mark_56 : decode cX6_mark 56 = .ok (.imul, 1) := by decide +kernel
theorem dX6_mark_57 : decode cX6_mark 57 = .ok (.iadd, 1) := by decide +kernel
theorem dX6_mark_58 : decode cX6_mark 58 = .ok (.istore 4, 2) := by decide +kernel
theorem dX6_mark_60 : decode cX6_mark 60 = .ok (.aload_n 0, 1) := by decide +kernel
theorem dX6_mark_61 : decode cX6_mark 61 = .ok (.getfield 28, 3) := by decide +kernel
theorem dX6_mark_64 : decode cX6_mark 64 = .ok (.iload_n 1, 1) := by decide +kernel
theorem dX6_mark_65 : decode cX6_mark 65 = .ok (.aload_n 0, 1) := by decide +kernel
theorem dX6_mark_66 : decode cX6_mark 66 = .ok (.getfield 28, 3) := by decide +kernel
theorem dX6_mark_69 : decode cX6_mark 69 = .ok (.iload_n 1, 1) := by decide +kernel
theorem dX6_mark_70 : decode cX6_mark 70 = .ok (.iaload, 1) := by decide +kernel
theorem dX6_mark_71 : decode cX6_mark 71 = .ok (.iconst 1, 1) := by decide +kernel
theorem dX6_mark_72 : decode cX6_mark 72 = .ok (.iload_n 2, 1) := by decide +kernel
theorem dX6_mark_73 : decode cX6_mark 73 = .ok (.ishl, 1) := by decide +kernel
theorem dX6_mark_74 : decode cX6_mark 74 = .ok (.iconst (-1), 1) := by decide +kernel
theorem dX6_mark_75 : decode cX6_mark 75 = .ok (.ixor, 1) := by decide +kernel
theorem dX6_mark_76 : decode cX6_mark 76 = .ok (.iand, 1) := by decide +kernel
theorem dX6_mark_77 : decode cX6_mark 77 = .ok (.iload_n 3, 1) := by decide +kernel
theorem dX6_mark_78 : decode cX6_mark 78 = .ok (.iconst 1, 1) := by decide +kernel
theorem dX6_mark_79 : decode cX6_mark 79 = .ok (.if_icmp .ne 9, 3) := by decide +kernel
theorem dX6_mark_82 : decode cX6_mark 82 = .ok (.iconst 1, 1) := by decide +kernel
theorem dX6_mark_83 : decode cX6_mark 83 = .ok (.iload_n 2, 1) := by decide +kernel
theorem dX6_mark_84 : decode cX6_mark 84 = .ok (.ishl, 1) := by decide +kernel
theorem dX6_mark_85 : decode cX6_mark 85 = .ok (.goto 4, 3) := by decide +kernel
theorem dX6_mark_88 : decode cX6_mark 88 = .ok (.iconst 0, 1) := by decide +kernel
theorem dX6_mark_89 : decode cX6_mark 89 = .ok (.ior, 1) := by decide +kernel
theorem dX6_mark_90 : decode cX6_mark 90 = .ok (.iastore, 1) := by decide +kernel
theorem dX6_mark_91 : decode cX6_mark 91 = .ok (.aload_n 0, 1) := by decide +kernel
theorem dX6_mark_92 : decode cX6_mark 92 = .ok (.getfield 31, 3) := by decide +kernel
theorem dX6_mark_95 : decode cX6_mark 95 = .ok (.iload_n 1, 1) := by decide +kernel
theorem dX6_mark_96 : decode cX6_mark 96 = .ok (.aload_n 0, 1) := by decide +kernel
theorem dX6_mark_97 : decode cX6_mark 97 = .ok (.getfield 31, 3) := by decide +kernel
theorem dX6_mark_100 : decode cX6_mark 100 = .ok (.iload_n 1, 1) := by decide +kernel
theorem dX6_mark_101 : decode cX6_mark 101 = .ok (.iaload, 1) := by decide +kernel
theorem dX6_mark_102 : decode cX6_mark 102 = .ok (.iconst 1, 1) := by decide +kernel
theorem dX6_mark_103 : decode cX6_mark 103 = .ok (.iload_n 2, 1) := by decide +kernel
theorem dX6_mark_104 : decode cX6_mark 104 = .ok (.ishl, 1) := by decide +kernel
theorem dX6_mark_105 : decode cX6_mark 105 = .ok (.iconst (-1), 1) := by decide +kernel
theorem dX6_mark_106 : decode cX6_mark 106 = .ok (.ixor, 1) := by decide +kernel
theorem dX6_mark_107 : decode cX6_mark 107 = .ok (.iand, 1) := by decide +kernel
theorem dX6_mark_108 : decode cX6_mark 108 = .ok (.iload_n 3, 1) := by decide +kernel
theorem dX6_mark_109 : decode cX6_mark 109 = .ok (.iconst 2, 1) := by decide +kernel
theorem dX6_mark_110 : decode cX6_mark 110 = .ok (.if_icmp .ne 9, 3) := by decide +kernel
theorem dX6_mark_113 : decode cX6_mark 113 = .ok (.iconst 1, 1) := by decide +kernel
theorem dX6_mark_114 : decode cX6_mark 114 = .ok (.iload_n 2, 1) := by decide +kernel
theorem dX6_mark_115 : decode cX6_mark 115 = .ok (.ishl, 1) := by decide +kernel
theorem dX6_mark_116 : decode cX6_mark 116 = .ok (.goto 4, 3) := by decide +kernel
theorem dX6_mark_119 : decode cX6_mark 119 = .ok (.iconst 0, 1) := by decide +kernel
theorem dX6_mark_120 : decode cX6_mark 120 = .ok (.ior, 1) := by decide +kernel
theorem dX6_mark_121 : decode cX6_mark 121 = .ok (.iastore, 1) := by decide +kernel
theorem dX6_mark_122 : decode cX6_mark 122 = .ok (.iload 4, 2) := by decide +kernel
theorem dX6_mark_124 : decode cX6_mark 124 = .ok (.ireturn, 1) := by decide +kernel
set_option maxRecDepth 20000 in
theorem ggX6_scoreOf_X6_bits : GoodIn wsX6_scoreOf wsX6_bits := goodIn_r _ [7] (by decide +kernel) (by decide +kernel)
set_option maxRecDepth 20000 in
theorem gX6_scoreOf_X6_bits : GoodIn wsX6_scoreOf (va_wsS RX6 126 yX6_bits wsX6_bits) := goodIn_app (goodIn_of _ (by decide +kernel)) ggX6_scoreOf_X6_bits
theorem dX6_scoreOf_0 : decode cX6_scoreOf 0 = .ok (.iconst 2, 1) := by decide +kernel
theorem dX6_scoreOf_1 : decode cX6_scoreOf 1 = .ok (.aload_n 0, 1) := by decide +kernel
theorem dX6_scoreOf_2 : decode cX6_scoreOf 2 = .ok (.getfield 75, 3) := by decide +kernel
theorem dX6_scoreOf_5 : decode cX6_scoreOf 5 = .ok (.iload_n 1, 1) := by decide +kernel
theorem dX6_scoreOf_6 : decode cX6_scoreOf 6 = .ok (.iaload, 1) := by decide +kernel
theorem dX6_scoreOf_7 : decode cX6_scoreOf 7 = .ok (.aload_n 0, 1) := by decide +kernel
theorem dX6_scoreOf_8 : decode cX6_scoreOf 8 = .ok (.getfield 28, 3) := by decide +kernel
theorem dX6_scoreOf_11 : decode cX6_scoreOf 11 = .ok (.iload_n 2, 1) := by decide +kernel
theorem dX6_scoreOf_12 : decode cX6_scoreOf 12 = .ok (.iaload, 1) := by decide +kernel
theorem dX6_scoreOf_13 : decode cX6_scoreOf 13 = .ok (.iand, 1) := by decide +kernel
theorem dX6_scoreOf_14 : decode cX6_scoreOf 14 = .ok (.invokestatic 126, 3) := by decide +kernel
theorem dX6_scoreOf_17 : decode cX6_scoreOf 17 = .ok (.imul, 1) := by decide +kernel
theorem dX6_scoreOf_18 : decode cX6_scoreOf 18 = .ok (.iconst 3, 1) := by decide +kernel
theorem dX6_scoreOf_19 : decode cX6_scoreOf 19 = .ok (.aload_n 0, 1) := by decide +kernel
theorem dX6_scoreOf_20 : decode cX6_scoreOf 20 = .ok (.getfield 75, 3) := by decide +kernel
theorem dX6_scoreOf_23 : decode cX6_scoreOf 23 = .ok (.iload_n 1, 1) := by decide +kernel
theorem dX6_scoreOf_24 : decode cX6_scoreOf 24 = .ok (.iaload, 1) := by decide +kernel
theorem dX6_scoreOf_25 : decode cX6_scoreOf 25 = .ok (.aload_n 0, 1) := by decide +kernel
theorem dX6_scoreOf_26 : decode cX6_scoreOf 26 = .ok (.getfield 31, 3) := by decide +kernel
theorem dX6_scoreOf_29 : decode cX6_scoreOf 29 = .ok (.iload_n 2, 1) := by decide +kernel
theorem dX6_scoreOf_30 : decode cX6_scoreOf 30 = .ok (.iaload, 1) := by decide +kernel
theorem dX6_scoreOf_31 : decode cX6_scoreOf 31 = .ok (.iand, 1) := by decide +kernel
theorem dX6_scoreOf_32 : decode cX6_scoreOf 32 = .ok (.invokestatic 126, 3) := by decide +kernel
theorem dX6_scoreOf_35 : decode cX6_scoreOf 35 = .ok (.imul, 1) := by decide +kernel
theorem dX6_scoreOf_36 : decode cX6_scoreOf 36 = .ok (.isub, 1) := by decide +kernel
theorem dX6_scoreOf_37 : decode cX6_scoreOf 37 = .ok (.aload_n 0, 1) := by decide +kernel
theorem dX6_scoreOf_38 : decode cX6_scoreOf 38 = .ok (.getfield 28, 3) := by decide +kernel
theorem dX6_scoreOf_41 : decode cX6_scoreOf 41 = .ok (.iload_n 2, 1) := by decide +kernel
theorem dX6_scoreOf_42 : decode cX6_scoreOf 42 = .ok (.iaload, 1) := by decide +kernel
theorem dX6_scoreOf_43 : decode cX6_scoreOf 43 = .ok (.aload_n 0, 1) := by decide +kernel
theorem dX6_scoreOf_44 : decode cX6_scoreOf 44 = .ok (.getfield 75, 3) := by decide +kernel
theorem dX6_scoreOf_47 : decode cX6_scoreOf 47 = .ok (.iload_n 1, 1) := by decide +kernel
theorem dX6_scoreOf_48 : decode cX6_scoreOf 48 = .ok (.iaload, 1) := by decide +kernel
theorem dX6_scoreOf_49 : decode cX6_scoreOf 49 = .ok (.iconst (-1), 1) := by decide +kernel
theorem dX6_scoreOf_50 : decode cX6_scoreOf 50 = .ok (.ixor, 1) := by decide +kernel
theorem dX6_scoreOf_51 : decode cX6_scoreOf 51 = .ok (.iand, 1) := by decide +kernel
theorem dX6_scoreOf_52 : decode cX6_scoreOf 52 = .ok (.invokestatic 126, 3) := by decide +kernel
theorem dX6_scoreOf_55 : decode cX6_scoreOf 55 = .ok (.isub, 1) := by decide +kernel
theorem dX6_scoreOf_56 : decode cX6_scoreOf 56 = .ok (.ireturn, 1) := by decide +kernel
set_option maxRecDepth 20000 in
theorem ggX6_score_X6_in : GoodIn wsX6_score wsX6_in := goodIn_r _ [5] (by decide +kernel) (by decide +kernel)
set_option maxRecDepth 20000 in
theorem gX6_score_X6_in : GoodIn wsX6_score (va_wsS RX6 92 yX6_in wsX6_in) := goodIn_app (goodIn_of _ (by decide +kernel)) ggX6_score_X6_in
set_option maxRecDepth 20000 in
theorem ggX6_score_X6_noThing : GoodIn wsX6_score wsX6_noThing := goodIn_r _ [9, 10, 2, 3, 4, 5, 21, 22, 23, 24, 25, 26, 27, 28, 29, 30, 31, 32, 33, 34, 35, 36, 37, 38, 39, 40, 41, 42, 43, 44, 45, 46, 47, 48, 49, 50, 51, 52, 53, 54, 55, 56, 57, 58] (by decide +kernel) (by decide +kernel)
set_option maxRecDepth 20000 in
theorem gX6_score_X6_noThing : GoodIn wsX6_score (wsV RX6 107 RX6 yX6_noThing wsX6_noThing) := goodIn_app (goodIn_of _ (by decide +kernel)) ggX6_score_X6_noThing
set_option maxRecDepth 20000 in
theorem ggX6_score_X6_scoreOf : GoodIn wsX6_score wsX6_scoreOf := goodIn_r _ [14, 15, 16, 17, 18, 19, 4, 20, 21, 22, 23, 24, 25, 26, 27, 28, 29, 30, 31, 32, 33, 34, 35, 36, 37, 38, 39, 40, 41, 42, 43, 44, 45, 46, 47, 48, 49, 50, 51, 52, 53, 54, 55, 56, 57, 58] (by decide +kernel) (by decide +kernel)
set_option maxRecDepth 20000 in
theorem gX6_score_X6_scoreOf : GoodIn wsX6_score (wsV RX6 219 RX6 yX6_scoreOf wsX6_scoreOf) := goodIn_app (goodIn_of _ (by decide +kernel)) ggX6_score_X6_scoreOf
theorem dX6_score_0 : decode cX6_score 0 = .ok (.iload_n 1, 1) := by decide +kernel
theorem dX6_score_1 : decode cX6_score 1 = .ok (.i2l, 1) := by decide +kernel
theorem dX6_score_2 : decode cX6_score 2 = .ok (.lconst 0, 1) := by decide +kernel
theorem dX6_score_3 : decode cX6_score 3 = .ok (.aload_n 0, 1) := by decide +kernel
theorem dX6_score_4 : decode cX6_score 4 = .ok (.getfield 212, 3) := by decide +kernel
theorem dX6_score_7 : decode cX6_score 7 = .ok (.iconst 1, 1) := by decide +kernel
theorem dX6_score_8 : decode cX6_score 8 = .ok (.isub, 1) := by decide +kernel
theorem dX6_score_9 : decode cX6_score 9 = .ok (.i2l, 1) := by decide +kernel
theorem dX6_score_10 : decode cX6_score 10 = .ok (.invokestatic 92, 3) := by decide +kernel
theorem dX6_score_13 : decode cX6_score 13 = .ok (.ifCond .eq 11, 3) := by decide +kernel
theorem dX6_score_16 : decode cX6_score 16 = .ok (.aload_n 0, 1) := by decide +kernel
theorem dX6_score_17 : decode cX6_score 17 = .ok (.iload_n 2, 1) := by decide +kernel
theorem dX6_score_18 : decode cX6_score 18 = .ok (.invokevirtual 107, 3) := by decide +kernel
theorem dX6_score_21 : decode cX6_score 21 = .ok (.ifCond .eq 9, 3) := by decide +kernel
theorem dX6_score_24 : decode cX6_score 24 = .ok (.sipush (-1000), 3) := by decide +kernel
theorem dX6_score_27 : decode cX6_score 27 = .ok (.goto 9, 3) := by decide +kernel
theorem dX6_score_30 : decode cX6_score 30 = .ok (.aload_n 0, 1) := by decide +kernel
theorem dX6_score_31 : decode cX6_score 31 = .ok (.iload_n 1, 1) := by decide +kernel
theorem dX6_score_32 : decode cX6_score 32 = .ok (.iload_n 2, 1) := by decide +kernel
theorem dX6_score_33 : decode cX6_score 33 = .ok (.invokevirtual 219, 3) := by decide +kernel
theorem dX6_score_36 : decode cX6_score 36 = .ok (.ireturn, 1) := by decide +kernel
set_option maxRecDepth 20000 in
theorem ggX6_findJoined_X6_scoreOf : GoodIn wsX6_findJoined wsX6_scoreOf := goodIn_r _ [10, 11, 12, 13, 14, 15, 9, 16, 17, 18, 19, 20, 21, 22, 23, 24, 25, 26, 27, 28, 29, 30, 31, 32, 33, 34, 35, 36, 37, 38, 39, 40, 41, 42, 43, 44, 45, 46, 47, 48, 49, 50, 51, 52, 53, 54] (by decide +kernel) (by decide +kernel)
set_option maxRecDepth 20000 in
theorem gX6_findJoined_X6_scoreOf : GoodIn wsX6_findJoined (wsV RX6 219 RX6 yX6_scoreOf wsX6_scoreOf) := goodIn_app (goodIn_of _ (by decide +kernel)) ggX6_findJoined_X6_scoreOf
theorem dX6_findJoined_0 : decode cX6_findJoined 0 = .ok (.iconst 0, 1) := by decide +kernel
theorem dX6_findJoined_1 : decode cX6_findJoined 1 = .ok (.istore_n 1, 1) := by decide +kernel
theorem dX6_findJoined_2 : decode cX6_findJoined 2 = .ok (.iload_n 1, 1) := by decide +kernel
theorem dX6_findJoined_3 : decode cX6_findJoined 3 = .ok (.aload_n 0, 1) := by decide +kernel
theorem dX6_findJoined_4 : decode cX6_findJoined 4 = .ok (.getfield 212, 3) := by decide +kernel
theorem dX6_findJoined_7 : decode cX6_findJoined 7 = .ok (.if_icmp .ge 42, 3) := by decide +kernel
theorem dX6_findJoined_10 : decode cX6_findJoined 10 = .ok (.iconst 0, 1) := by decide +kernel
theorem dX6_findJoined_11 : decode cX6_findJoined 11 = .ok (.istore_n 2, 1) := by decide +kernel
theorem dX6_findJoined_12 : decode cX6_findJoined 12 = .ok (.iload_n 2, 1) := by decide +kernel
theorem dX6_findJoined_13 : decode cX6_findJoined 13 = .ok (.aload_n 0, 1) := by decide +kernel
theorem dX6_findJoined_14 : decode cX6_findJoined 14 = .ok (.getfield 104, 3) := by decide +kernel
theorem dX6_findJoined_17 : decode cX6_findJoined 17 = .ok (.if_icmp .ge 26, 3) := by decide +kernel
theorem dX6_findJoined_20 : decode cX6_findJoined 20 = .ok (.aload_n 0, 1) := by decide +kernel
theorem dX6_findJoined_21 : decode cX6_findJoined 21 = .ok (.getfield 84, 3) := by decide +kernel
theorem dX6_findJoined_24 : decode cX6_findJoined 24 = .ok (.bipush 12, 2) := by decide +kernel
theorem dX6_findJoined_26 : decode cX6_findJoined 26 = .ok (.iload_n 1, 1) := by decide +kernel
theorem dX6_findJoined_27 : decode cX6_findJoined 27 = .ok (.imul, 1) := by decide +kernel
theorem dX6_findJoined_28 : decode cX6_findJoined 28 = .ok (.iload_n 2, 1) := by decide +kernel
theorem dX6_findJoined_29 : decode cX6_findJoined 29 = .ok (.iadd, 1) := by decide +kernel
theorem dX6_findJoined_30 : decode cX6_findJoined 30 = .ok (.aload_n 0, 1) := by decide +kernel
theorem dX6_findJoined_31 : decode cX6_findJoined 31 = .ok (.iload_n 1, 1) := by decide +kernel
theorem dX6_findJoined_32 : decode cX6_findJoined 32 = .ok (.iload_n 2, 1) := by decide +kernel
theorem dX6_findJoined_33 : decode cX6_findJoined 33 = .ok (.invokevirtual 219, 3) := by decide +kernel
theorem dX6_findJoined_36 : decode cX6_findJoined 36 = .ok (.iastore, 1) := by decide +kernel
theorem dX6_findJoined_37 : decode cX6_findJoined 37 = .ok (.iinc 2 1, 3) := by decide +kernel
theorem dX6_findJoined_40 : decode cX6_findJoined 40 = .ok (.goto (-28), 3) := by decide +kernel
theorem dX6_findJoined_43 : decode cX6_findJoined 43 = .ok (.iinc 1 1, 3) := by decide +kernel
theorem dX6_findJoined_46 : decode cX6_findJoined 46 = .ok (.goto (-44), 3) := by decide +kernel
theorem dX6_findJoined_49 : decode cX6_findJoined 49 = .ok (.iconst 0, 1) := by decide +kernel
theorem dX6_findJoined_50 : decode cX6_findJoined 50 = .ok (.istore_n 1, 1) := by decide +kernel
theorem dX6_findJoined_51 : decode cX6_findJoined 51 = .ok (.iload_n 1, 1) := by decide +kernel
theorem dX6_findJoined_52 : decode cX6_findJoined 52 = .ok (.sipush 4096, 3) := by decide +kernel
theorem dX6_findJoined_55 : decode cX6_findJoined 55 = .ok (.if_icmp .ge 25, 3) := by decide +kernel
theorem dX6_findJoined_58 : decode cX6_findJoined 58 = .ok (.aload_n 0, 1) := by decide +kernel
theorem dX6_findJoined_59 : decode cX6_findJoined 59 = .ok (.getfield 78, 3) := by decide +kernel
theorem dX6_findJoined_62 : decode cX6_findJoined 62 = .ok (.sipush 4096, 3) := by decide +kernel
theorem dX6_findJoined_65 : decode cX6_findJoined 65 = .ok (.aload_n 0, 1) := by decide +kernel
theorem dX6_findJoined_66 : decode cX6_findJoined 66 = .ok (.getfield 212, 3) := by decide +kernel
theorem dX6_findJoined_69 : decode cX6_findJoined 69 = .ok (.imul, 1) := by decide +kernel
theorem dX6_findJoined_70 : decode cX6_findJoined 70 = .ok (.iload_n 1, 1) := by decide +kernel
theorem dX6_findJoined_71 : decode cX6_findJoined 71 = .ok (.iadd, 1) := by decide +kernel
theorem dX6_findJoined_72 : decode cX6_findJoined 72 = .ok (.iconst 0, 1) := by decide +kernel
theorem dX6_findJoined_73 : decode cX6_findJoined 73 = .ok (.iastore, 1) := by decide +kernel
theorem dX6_findJoined_74 : decode cX6_findJoined 74 = .ok (.iinc 1 1, 3) := by decide +kernel
theorem dX6_findJoined_77 : decode cX6_findJoined 77 = .ok (.goto (-26), 3) := by decide +kernel
theorem dX6_findJoined_80 : decode cX6_findJoined 80 = .ok (.aload_n 0, 1) := by decide +kernel
theorem dX6_findJoined_81 : decode cX6_findJoined 81 = .ok (.getfield 212, 3) := by decide +kernel
theorem dX6_findJoined_84 : decode cX6_findJoined 84 = .ok (.iconst 1, 1) := by decide +kernel
theorem dX6_findJoined_85 : decode cX6_findJoined 85 = .ok (.isub, 1) := by decide +kernel
theorem dX6_findJoined_86 : decode cX6_findJoined 86 = .ok (.istore_n 1, 1) := by decide +kernel
theorem dX6_findJoined_87 : decode cX6_findJoined 87 = .ok (.iload_n 1, 1) := by decide +kernel
theorem dX6_findJoined_88 : decode cX6_findJoined 88 = .ok (.ifCond .lt 140, 3) := by decide +kernel
theorem dX6_findJoined_91 : decode cX6_findJoined 91 = .ok (.iconst 0, 1) := by decide +kernel
theorem dX6_findJoined_92 : decode cX6_findJoined 92 = .ok (.istore_n 2, 1) := by decide +kernel
theorem dX6_findJoined_93 : decode cX6_findJoined 93 = .ok (.iload_n 2, 1) := by decide +kernel
theorem dX6_findJoined_94 : decode cX6_findJoined 94 = .ok (.sipush 4096, 3) := by decide +kernel
theorem dX6_findJoined_97 : decode cX6_findJoined 97 = .ok (.if_icmp .ge 125, 3) := by decide +kernel
theorem dX6_findJoined_100 : decode cX6_findJoined 100 = .ok (.aload_n 0, 1) := by decide +kernel
theorem dX6_findJoined_101 : decode cX6_findJoined 101 = .ok (.getfield 78, 3) := by decide +kernel
theorem dX6_findJoined_104 : decode cX6_findJoined 104 = .ok (.sipush 4096, 3) := by decide +kernel
theorem dX6_findJoined_107 : decode cX6_findJoined 107 = .ok (.iload_n 1, 1) := by decide +kernel
theorem dX6_findJoined_108 : decode cX6_findJoined 108 = .ok (.iconst 1, 1) := by decide +kernel
theorem dX6_findJoined_109 : decode cX6_findJoined 109 = .ok (.iadd, 1) := by decide +kernel
theorem dX6_findJoined_110 : decode cX6_findJoined 110 = .ok (.imul, 1) := by decide +kernel
theorem dX6_findJoined_111 : decode cX6_findJoined 111 = .ok (.iload_n 2, 1) := by decide +kernel
theorem dX6_findJoined_112 : decode cX6_findJoined 112 = .ok (.iadd, 1) := by decide +kernel
theorem dX6_findJoined_113 : decode cX6_findJoined 113 = .ok (.iaload, 1) := by decide +kernel
theorem dX6_findJoined_114 : decode cX6_findJoined 114 = .ok (.istore_n 3, 1) := by decide +kernel
theorem dX6_findJoined_115 : decode cX6_findJoined 115 = .ok (.iconst 0, 1) := by decide +kernel
theorem dX6_findJoined_116 : decode cX6_findJoined 116 = .ok (.istore 4, 2) := by decide +kernel
theorem dX6_findJoined_118 : decode cX6_findJoined 118 = .ok (.iload 4, 2) := by decide +kernel
theorem dX6_findJoined_120 : decode cX6_findJoined 120 = .ok (.aload_n 0, 1) := by decide +kernel
theorem dX6_findJoined_121 : decode cX6_findJoined 121 = .ok (.getfield 104, 3) := by decide +kernel
theorem dX6_findJoined_124 : decode cX6_findJoined 124 = .ok (.if_icmp .ge 79, 3) := by decide +kernel
theorem dX6_findJoined_127 : decode cX6_findJoined 127 = .ok (.iload_n 2, 1) := by decide +kernel
theorem dX6_findJoined_128 : decode cX6_findJoined 128 = .ok (.iload 4, 2) := by decide +kernel
theorem dX6_findJoined_130 : decode cX6_findJoined 130 = .ok (.ishr, 1) := by decide +kernel
theorem dX6_findJoined_131 : decode cX6_findJoined 131 = .ok (.iconst 1, 1) := by decide +kernel
theorem dX6_findJoined_132 : decode cX6_findJoined 132 = .ok (.iand, 1) := by decide +kernel
theorem dX6_findJoined_133 : decode cX6_findJoined 133 = .ok (.iconst 1, 1) := by decide +kernel
theorem dX6_findJoined_134 : decode cX6_findJoined 134 = .ok (.if_icmp .ne 7, 3) := by decide +kernel
theorem dX6_findJoined_137 : decode cX6_findJoined 137 = .ok (.iconst 0, 1) := by decide +kernel
theorem dX6_findJoined_138 : decode cX6_findJoined 138 = .ok (.goto 15, 3) := by decide +kernel
theorem dX6_findJoined_141 : decode cX6_findJoined 141 = .ok (.aload_n 0, 1) := by decide +kernel
theorem dX6_findJoined_142 : decode cX6_findJoined 142 = .ok (.getfield 84, 3) := by decide +kernel
theorem dX6_findJoined_145 : decode cX6_findJoined 145 = .ok (.bipush 12, 2) := by decide +kernel
theorem dX6_findJoined_147 : decode cX6_findJoined 147 = .ok (.iload_n 1, 1) := by decide +kernel
theorem dX6_findJoined_148 : decode cX6_findJoined 148 = .ok (.imul, 1) := by decide +kernel
theorem dX6_findJoined_149 : decode cX6_findJoined 149 = .ok (.iload 4, 2) := by decide +kernel
theorem dX6_findJoined_151 : decode cX6_findJoined 151 = .ok (.iadd, 1) := by decide +kernel
theorem dX6_findJoined_152 : decode cX6_findJoined 152 = .ok (.iaload, 1) := by decide +kernel
theorem dX6_findJoined_153 : decode cX6_findJoined 153 = .ok (.istore 5, 2) := by decide +kernel
theorem dX6_findJoined_155 : decode cX6_findJoined 155 = .ok (.iload 5, 2) := by decide +kernel
theorem dX6_findJoined_157 : decode cX6_findJoined 157 = .ok (.ifCond .le 40, 3) := by decide +kernel
theorem dX6_findJoined_160 : decode cX6_findJoined 160 = .ok (.iload 5, 2) := by decide +kernel
theorem dX6_findJoined_162 : decode cX6_findJoined 162 = .ok (.aload_n 0, 1) := by decide +kernel
theorem dX6_findJoined_163 : decode cX6_findJoined 163 = .ok (.getfield 78, 3) := by decide +kernel
theorem dX6_findJoined_166 : decode cX6_findJoined 166 = .ok (.sipush 4096, 3) := by decide +kernel
theorem dX6_findJoined_169 : decode cX6_findJoined 169 = .ok (.iload_n 1, 1) := by decide +kernel
theorem dX6_findJoined_170 : decode cX6_findJoined 170 = .ok (.iconst 1, 1) := by decide +kernel
theorem dX6_findJoined_171 : decode cX6_findJoined 171 = .ok (.iadd, 1) := by decide +kernel
theorem dX6_findJoined_172 : decode cX6_findJoined 172 = .ok (.imul, 1) := by decide +kernel
theorem dX6_findJoined_173 : decode cX6_findJoined 173 = .ok (.iload_n 2, 1) := by decide +kernel
theorem dX6_findJoined_174 : decode cX6_findJoined 174 = .ok (.iconst 1, 1) := by decide +kernel
theorem dX6_findJoined_175 : decode cX6_findJoined 175 = .ok (.iload 4, 2) := by decide +kernel
theorem dX6_findJoined_177 : decode cX6_findJoined 177 = .ok (.ishl, 1) := by decide +kernel
theorem dX6_findJoined_178 : decode cX6_findJoined 178 = .ok (.ior, 1) := by decide +kernel
theorem dX6_findJoined_179 : decode cX6_findJoined 179 = .ok (.iadd, 1) := by decide +kernel
theorem dX6_findJoined_180 : decode cX6_findJoined 180 = .ok (.iaload, 1) := by decide +kernel
theorem dX6_findJoined_181 : decode cX6_findJoined 181 = .ok (.iadd, 1) := by decide +kernel
theorem dX6_findJoined_182 : decode cX6_findJoined 182 = .ok (.istore 6, 2) := by decide +kernel
theorem dX6_findJoined_184 : decode cX6_findJoined 184 = .ok (.iload 6, 2) := by decide +kernel
theorem dX6_findJoined_186 : decode cX6_findJoined 186 = .ok (.iload_n 3, 1) := by decide +kernel
theorem dX6_findJoined_187 : decode cX6_findJoined 187 = .ok (.if_icmp .le 8, 3) := by decide +kernel
theorem dX6_findJoined_190 : decode cX6_findJoined 190 = .ok (.iload 6, 2) := by decide +kernel
theorem dX6_findJoined_192 : decode cX6_findJoined 192 = .ok (.goto 4, 3) := by decide +kernel
theorem dX6_findJoined_195 : decode cX6_findJoined 195 = .ok (.iload_n 3, 1) := by decide +kernel
theorem dX6_findJoined_196 : decode cX6_findJoined 196 = .ok (.istore_n 3, 1) := by decide +kernel
theorem dX6_findJoined_197 : decode cX6_findJoined 197 = .ok (.iinc 4 1, 3) := by decide +kernel
theorem dX6_findJoined_200 : decode cX6_findJoined 200 = .ok (.goto (-82), 3) := by decide +kernel
theorem dX6_findJoined_203 : decode cX6_findJoined 203 = .ok (.aload_n 0, 1) := by decide +kernel
theorem dX6_findJoined_204 : decode cX6_findJoined 204 = .ok (.getfield 78, 3) := by decide +kernel
theorem dX6_findJoined_207 : decode cX6_findJoined 207 = .ok (.sipush 4096, 3) := by decide +kernel
theorem dX6_findJoined_210 : decode cX6_findJoined 210 = .ok (.iload_n 1, 1) := by decide +kernel
theorem dX6_findJoined_211 : decode cX6_findJoined 211 = .ok (.imul, 1) := by decide +kernel
theorem dX6_findJoined_212 : decode cX6_findJoined 212 = .ok (.iload_n 2, 1) := by decide +kernel
theorem dX6_findJoined_213 : decode cX6_findJoined 213 = .ok (.iadd, 1) := by decide +kernel
theorem dX6_findJoined_214 : decode cX6_findJoined 214 = .ok (.iload_n 3, 1) := by decide +kernel
theorem dX6_findJoined_215 : decode cX6_findJoined 215 = .ok (.iastore, 1) := by decide +kernel
theorem dX6_findJoined_216 : decode cX6_findJoined 216 = .ok (.iinc 2 1, 3) := by decide +kernel
theorem dX6_findJoined_219 : decode cX6_findJoined 219 = .ok (.goto (-126), 3) := by decide +kernel
theorem dX6_findJoined_222 : decode cX6_findJoined 222 = .ok (.iinc 1 (-1), 3) := by decide +kernel
theorem dX6_findJoined_225 : decode cX6_findJoined 225 = .ok (.goto (-138), 3) := by decide +kernel
theorem dX6_findJoined_228 : decode cX6_findJoined 228 = .ok (.iconst 0, 1) := by decide +kernel
theorem dX6_findJoined_229 : decode cX6_findJoined 229 = .ok (.istore_n 1, 1) := by decide +kernel
theorem dX6_findJoined_230 : decode cX6_findJoined 230 = .ok (.iconst 0, 1) := by decide +kernel
theorem dX6_findJoined_231 : decode cX6_findJoined 231 = .ok (.istore_n 2, 1) := by decide +kernel
theorem dX6_findJoined_232 : decode cX6_findJoined 232 = .ok (.iload_n 2, 1) := by decide +kernel
theorem dX6_findJoined_233 : decode cX6_findJoined 233 = .ok (.aload_n 0, 1) := by decide +kernel
theorem dX6_findJoined_234 : decode cX6_findJoined 234 = .ok (.getfield 212, 3) := by decide +kernel
theorem dX6_findJoined_237 : decode cX6_findJoined 237 = .ok (.if_icmp .ge 152, 3) := by decide +kernel
theorem dX6_findJoined_240 : decode cX6_findJoined 240 = .ok (.aload_n 0, 1) := by decide +kernel
theorem dX6_findJoined_241 : decode cX6_findJoined 241 = .ok (.getfield 81, 3) := by decide +kernel
theorem dX6_findJoined_244 : decode cX6_findJoined 244 = .ok (.iload_n 2, 1) := by decide +kernel
theorem dX6_findJoined_245 : decode cX6_findJoined 245 = .ok (.iconst (-1), 1) := by decide +kernel
theorem dX6_findJoined_246 : decode cX6_findJoined 246 = .ok (.iastore, 1) := by decide +kernel
theorem dX6_findJoined_247 : decode cX6_findJoined 247 = .ok (.aload_n 0, 1) := by decide +kernel
theorem dX6_findJoined_248 : decode cX6_findJoined 248 = .ok (.getfield 104, 3) := by decide +kernel
theorem dX6_findJoined_251 : decode cX6_findJoined 251 = .ok (.iconst 1, 1) := by decide +kernel
theorem dX6_findJoined_252 : decode cX6_findJoined 252 = .ok (.isub, 1) := by decide +kernel
theorem dX6_findJoined_253 : decode cX6_findJoined 253 = .ok (.istore_n 3, 1) := by decide +kernel
theorem dX6_findJoined_254 : decode cX6_findJoined 254 = .ok (.iload_n 3, 1) := by decide +kernel
theorem dX6_findJoined_255 : decode cX6_findJoined 255 = .ok (.ifCond .lt 104, 3) := by decide +kernel
theorem dX6_findJoined_258 : decode cX6_findJoined 258 = .ok (.iload_n 1, 1) := by decide +kernel
theorem dX6_findJoined_259 : decode cX6_findJoined 259 = .ok (.iload_n 3, 1) := by decide +kernel
theorem dX6_findJoined_260 : decode cX6_findJoined 260 = .ok (.ishr, 1) := by decide +kernel
theorem dX6_findJoined_261 : decode cX6_findJoined 261 = .ok (.iconst 1, 1) := by decide +kernel
theorem dX6_findJoined_262 : decode cX6_findJoined 262 = .ok (.iand, 1) := by decide +kernel
theorem dX6_findJoined_263 : decode cX6_findJoined 263 = .ok (.iconst 1, 1) := by decide +kernel
theorem dX6_findJoined_264 : decode cX6_findJoined 264 = .ok (.if_icmp .ne 7, 3) := by decide +kernel
theorem dX6_findJoined_267 : decode cX6_findJoined 267 = .ok (.iconst 0, 1) := by decide +kernel
theorem dX6_findJoined_268 : decode cX6_findJoined 268 = .ok (.goto 14, 3) := by decide +kernel
theorem dX6_findJoined_271 : decode cX6_findJoined 271 = .ok (.aload_n 0, 1) := by decide +kernel
theorem dX6_findJoined_272 : decode cX6_findJoined 272 = .ok (.getfield 84, 3) := by decide +kernel
theorem dX6_findJoined_275 : decode cX6_findJoined 275 = .ok (.bipush 12, 2) := by decide +kernel
theorem dX6_findJoined_277 : decode cX6_findJoined 277 = .ok (.iload_n 2, 1) := by decide +kernel
theorem dX6_findJoined_278 : decode cX6_findJoined 278 = .ok (.imul, 1) := by decide +kernel
theorem dX6_findJoined_279 : decode cX6_findJoined 279 = .ok (.iload_n 3, 1) := by decide +kernel
theorem dX6_findJoined_280 : decode cX6_findJoined 280 = .ok (.iadd, 1) := by decide +kernel
theorem dX6_findJoined_281 : decode cX6_findJoined 281 = .ok (.iaload, 1) := by decide +kernel
theorem dX6_findJoined_282 : decode cX6_findJoined 282 = .ok (.istore 4, 2) := by decide +kernel
theorem dX6_findJoined_284 : decode cX6_findJoined 284 = .ok (.iload 4, 2) := by decide +kernel
theorem dX6_findJoined_286 : decode cX6_findJoined 286 = .ok (.ifCond .le 43, 3) := by decide +kernel
theorem dX6_findJoined_289 : decode cX6_findJoined 289 = .ok (.iload 4, 2) := by decide +kernel
theorem dX6_findJoined_291 : decode cX6_findJoined 291 = .ok (.aload_n 0, 1) := by decide +kernel
theorem dX6_findJoined_292 : decode cX6_findJoined 292 = .ok (.getfield 78, 3) := by decide +kernel
theorem dX6_findJoined_295 : decode cX6_findJoined 295 = .ok (.sipush 4096, 3) := by decide +kernel
theorem dX6_findJoined_298 : decode cX6_findJoined 298 = .ok (.iload_n 2, 1) := by decide +kernel
theorem dX6_findJoined_299 : decode cX6_findJoined 299 = .ok (.iconst 1, 1) := by decide +kernel
theorem dX6_findJoined_300 : decode cX6_findJoined 300 = .ok (.iadd, 1) := by decide +kernel
theorem dX6_findJoined_301 : decode cX6_findJoined 301 = .ok (.imul, 1) := by decide +kernel
theorem dX6_findJoined_302 : decode cX6_findJoined 302 = .ok (.iload_n 1, 1) := by decide +kernel
theorem dX6_findJoined_303 : decode cX6_findJoined 303 = .ok (.iconst 1, 1) := by decide +kernel
theorem dX6_findJoined_304 : decode cX6_findJoined 304 = .ok (.iload_n 3, 1) := by decide +kernel
theorem dX6_findJoined_305 : decode cX6_findJoined 305 = .ok (.ishl, 1) := by decide +kernel
theorem dX6_findJoined_306 : decode cX6_findJoined 306 = .ok (.ior, 1) := by decide +kernel
theorem dX6_findJoined_307 : decode cX6_findJoined 307 = .ok (.iadd, 1) := by decide +kernel
theorem dX6_findJoined_308 : decode cX6_findJoined 308 = .ok (.iaload, 1) := by decide +kernel
theorem dX6_findJoined_309 : decode cX6_findJoined 309 = .ok (.iadd, 1) := by decide +kernel
theorem dX6_findJoined_310 : decode cX6_findJoined 310 = .ok (.aload_n 0, 1) := by decide +kernel
theorem dX6_findJoined_311 : decode cX6_findJoined 311 = .ok (.getfield 78, 3) := by decide +kernel
theorem dX6_findJoined_314 : decode cX6_findJoined 314 = .ok (.sipush 4096, 3) := by decide +kernel
theorem dX6_findJoined_317 : decode cX6_findJoined 317 = .ok (.iload_n 2, 1) := by decide +kernel
theorem dX6_findJoined_318 : decode cX6_findJoined 318 = .ok (.imul, 1) := by decide +kernel
theorem dX6_findJoined_319 : decode cX6_findJoined 319 = .ok (.iload_n 1, 1) := by decide +kernel
theorem dX6_findJoined_320 : decode cX6_findJoined 320 = .ok (.iadd, 1) := by decide +kernel
theorem dX6_findJoined_321 : decode cX6_findJoined 321 = .ok (.iaload, 1) := by decide +kernel
theorem dX6_findJoined_322 : decode cX6_findJoined 322 = .ok (.if_icmp .ne 7, 3) := by decide +kernel
theorem dX6_findJoined_325 : decode cX6_findJoined 325 = .ok (.iconst 1, 1) := by decide +kernel
theorem dX6_findJoined_326 : decode cX6_findJoined 326 = .ok (.goto 4, 3) := by decide +kernel
theorem dX6_findJoined_329 : decode cX6_findJoined 329 = .ok (.iconst 0, 1) := by decide +kernel
theorem dX6_findJoined_330 : decode cX6_findJoined 330 = .ok (.istore 5, 2) := by decide +kernel
theorem dX6_findJoined_332 : decode cX6_findJoined 332 = .ok (.aload_n 0, 1) := by decide +kernel
theorem dX6_findJoined_333 : decode cX6_findJoined 333 = .ok (.getfield 81, 3) := by decide +kernel
theorem dX6_findJoined_336 : decode cX6_findJoined 336 = .ok (.iload_n 2, 1) := by decide +kernel
theorem dX6_findJoined_337 : decode cX6_findJoined 337 = .ok (.iload 5, 2) := by decide +kernel
theorem dX6_findJoined_339 : decode cX6_findJoined 339 = .ok (.ifCond .eq 7, 3) := by decide +kernel
theorem dX6_findJoined_342 : decode cX6_findJoined 342 = .ok (.iload_n 3, 1) := by decide +kernel
theorem dX6_findJoined_343 : decode cX6_findJoined 343 = .ok (.goto 9, 3) := by decide +kernel
theorem dX6_findJoined_346 : decode cX6_findJoined 346 = .ok (.aload_n 0, 1) := by decide +kernel
theorem dX6_findJoined_347 : decode cX6_findJoined 347 = .ok (.getfield 81, 3) := by decide +kernel
theorem dX6_findJoined_350 : decode cX6_findJoined 350 = .ok (.iload_n 2, 1) := by decide +kernel
theorem dX6_findJoined_351 : decode cX6_findJoined 351 = .ok (.iaload, 1) := by decide +kernel
theorem dX6_findJoined_352 : decode cX6_findJoined 352 = .ok (.iastore, 1) := by decide +kernel
theorem dX6_findJoined_353 : decode cX6_findJoined 353 = .ok (.iinc 3 (-1), 3) := by decide +kernel
theorem dX6_findJoined_356 : decode cX6_findJoined 356 = .ok (.goto (-102), 3) := by decide +kernel
theorem dX6_findJoined_359 : decode cX6_findJoined 359 = .ok (.iload_n 1, 1) := by decide +kernel
theorem dX6_findJoined_360 : decode cX6_findJoined 360 = .ok (.aload_n 0, 1) := by decide +kernel
theorem dX6_findJoined_361 : decode cX6_findJoined 361 = .ok (.getfield 81, 3) := by decide +kernel
theorem dX6_findJoined_364 : decode cX6_findJoined 364 = .ok (.iload_n 2, 1) := by decide +kernel
theorem dX6_findJoined_365 : decode cX6_findJoined 365 = .ok (.iaload, 1) := by decide +kernel
theorem dX6_findJoined_366 : decode cX6_findJoined 366 = .ok (.ifCond .ge 7, 3) := by decide +kernel
theorem dX6_findJoined_369 : decode cX6_findJoined 369 = .ok (.iconst 0, 1) := by decide +kernel
theorem dX6_findJoined_370 : decode cX6_findJoined 370 = .ok (.goto 11, 3) := by decide +kernel
theorem dX6_findJoined_373 : decode cX6_findJoined 373 = .ok (.iconst 1, 1) := by decide +kernel
theorem dX6_findJoined_374 : decode cX6_findJoined 374 = .ok (.aload_n 0, 1) := by decide +kernel
theorem dX6_findJoined_375 : decode cX6_findJoined 375 = .ok (.getfield 81, 3) := by decide +kernel
theorem dX6_findJoined_378 : decode cX6_findJoined 378 = .ok (.iload_n 2, 1) := by decide +kernel
theorem dX6_findJoined_379 : decode cX6_findJoined 379 = .ok (.iaload, 1) := by decide +kernel
theorem dX6_findJoined_380 : decode cX6_findJoined 380 = .ok (.ishl, 1) := by decide +kernel
theorem dX6_findJoined_381 : decode cX6_findJoined 381 = .ok (.ior, 1) := by decide +kernel
theorem dX6_findJoined_382 : decode cX6_findJoined 382 = .ok (.istore_n 1, 1) := by decide +kernel
theorem dX6_findJoined_383 : decode cX6_findJoined 383 = .ok (.iinc 2 1, 3) := by decide +kernel
theorem dX6_findJoined_386 : decode cX6_findJoined 386 = .ok (.goto (-154), 3) := by decide +kernel
theorem dX6_findJoined_389 : decode cX6_findJoined 389 = .ok (.return_, 1) := by decide +kernel
set_option maxRecDepth 20000 in
theorem ggX6_joined_X6_findJoined : GoodIn wsX6_joined wsX6_findJoined := goodIn_r _ [7, 1, 8, 9, 2, 10, 11, 12, 13, 6, 14, 15, 16, 17, 18, 19, 20, 21, 22, 23, 24, 25, 26, 27, 28, 29, 30, 31, 32, 33, 34, 35, 36, 37, 38, 39, 40, 41, 42, 43, 44, 45, 46, 47, 48, 49, 50, 51, 52, 53, 54, 55, 56, 57, 58] (by decide +kernel) (by decide +kernel)
set_option maxRecDepth 20000 in
theorem gX6_joined_X6_findJoined : GoodIn wsX6_joined (wsV RX6 222 RX6 yX6_findJoined wsX6_findJoined) := goodIn_app (goodIn_of _ (by decide +kernel)) ggX6_joined_X6_findJoined
theorem dX6_joined_0 : decode cX6_joined 0 = .ok (.aload_n 0, 1) := by decide +kernel
theorem dX6_joined_1 : decode cX6_joined 1 = .ok (.getfield 212, 3) := by decide +kernel
theorem dX6_joined_4 : decode cX6_joined 4 = .ok (.bipush 6, 2) := by decide +kernel
theorem dX6_joined_6 : decode cX6_joined 6 = .ok (.if_icmp .le 6, 3) := by decide +kernel
theorem dX6_joined_9 : decode cX6_joined 9 = .ok (.bipush (-3), 2) := by decide +kernel
theorem dX6_joined_11 : decode cX6_joined 11 = .ok (.ireturn, 1) := by decide +kernel
theorem dX6_joined_12 : decode cX6_joined 12 = .ok (.aload_n 0, 1) := by decide +kernel
theorem dX6_joined_13 : decode cX6_joined 13 = .ok (.invokevirtual 222, 3) := by decide +kernel
theorem dX6_joined_16 : decode cX6_joined 16 = .ok (.aload_n 0, 1) := by decide +kernel
theorem dX6_joined_17 : decode cX6_joined 17 = .ok (.getfield 78, 3) := by decide +kernel
theorem dX6_joined_20 : decode cX6_joined 20 = .ok (.iconst 0, 1) := by decide +kernel
theorem dX6_joined_21 : decode cX6_joined 21 = .ok (.iaload, 1) := by decide +kernel
theorem dX6_joined_22 : decode cX6_joined 22 = .ok (.ireturn, 1) := by decide +kernel
set_option maxRecDepth 20000 in
theorem ggX6_joinedTo_X6_in : GoodIn wsX6_joinedTo wsX6_in := goodIn_r _ [6] (by decide +kernel) (by decide +kernel)
set_option maxRecDepth 20000 in
theorem gX6_joinedTo_X6_in : GoodIn wsX6_joinedTo (va_wsS RX6 92 yX6_in wsX6_in) := goodIn_app (goodIn_of _ (by decide +kernel)) ggX6_joinedTo_X6_in
set_option maxRecDepth 20000 in
theorem ggX6_joinedTo_X6_findJoined : GoodIn wsX6_joinedTo wsX6_findJoined := goodIn_r _ [10, 1, 11, 12, 13, 2, 14, 15, 16, 5, 17, 18, 19, 20, 21, 22, 23, 24, 25, 26, 27, 28, 29, 30, 31, 32, 33, 34, 35, 36, 37, 38, 39, 40, 41, 42, 43, 44, 45, 46, 47, 48, 49, 50, 51, 52, 53, 54, 55, 56, 57, 58, 59, 60, 61] (by decide +kernel) (by decide +kernel)
set_option maxRecDepth 20000 in
theorem gX6_joinedTo_X6_findJoined : GoodIn wsX6_joinedTo (wsV RX6 222 RX6 yX6_findJoined wsX6_findJoined) := goodIn_app (goodIn_of _ (by decide +kernel)) ggX6_joinedTo_X6_findJoined
theorem dX6_joinedTo_0 : decode cX6_joinedTo 0 = .ok (.iload_n 1, 1) := by decide +kernel
theorem dX6_joinedTo_1 : decode cX6_joinedTo 1 = .ok (.i2l, 1) := by decide +kernel
theorem dX6_joinedTo_2 : decode cX6_joinedTo 2 = .ok (.lconst 0, 1) := by decide +kernel
theorem dX6_joinedTo_3 : decode cX6_joinedTo 3 = .ok (.aload_n 0, 1) := by decide +kernel
theorem dX6_joinedTo_4 : decode cX6_joinedTo 4 = .ok (.getfield 212, 3) := by decide +kernel
theorem dX6_joinedTo_7 : decode cX6_joinedTo 7 = .ok (.iconst 1, 1) := by decide +kernel
theorem dX6_joinedTo_8 : decode cX6_joinedTo 8 = .ok (.isub, 1) := by decide +kernel
theorem dX6_joinedTo_9 : decode cX6_joinedTo 9 = .ok (.i2l, 1) := by decide +kernel
theorem dX6_joinedTo_10 : decode cX6_joinedTo 10 = .ok (.invokestatic 92, 3) := by decide +kernel
theorem dX6_joinedTo_13 : decode cX6_joinedTo 13 = .ok (.ifCond .ne 6, 3) := by decide +kernel
theorem dX6_joinedTo_16 : decode cX6_joinedTo 16 = .ok (.bipush (-2), 2) := by decide +kernel
theorem dX6_joinedTo_18 : decode cX6_joinedTo 18 = .ok (.ireturn, 1) := by decide +kernel
theorem dX6_joinedTo_19 : decode cX6_joinedTo 19 = .ok (.aload_n 0, 1) := by decide +kernel
theorem dX6_joinedTo_20 : decode cX6_joinedTo 20 = .ok (.getfield 212, 3) := by decide +kernel
theorem dX6_joinedTo_23 : decode cX6_joinedTo 23 = .ok (.bipush 6, 2) := by decide +kernel
theorem dX6_joinedTo_25 : decode cX6_joinedTo 25 = .ok (.if_icmp .le 6, 3) := by decide +kernel
theorem dX6_joinedTo_28 : decode cX6_joinedTo 28 = .ok (.bipush (-3), 2) := by decide +kernel
theorem dX6_joinedTo_30 : decode cX6_joinedTo 30 = .ok (.ireturn, 1) := by decide +kernel
theorem dX6_joinedTo_31 : decode cX6_joinedTo 31 = .ok (.aload_n 0, 1) := by decide +kernel
theorem dX6_joinedTo_32 : decode cX6_joinedTo 32 = .ok (.invokevirtual 222, 3) := by decide +kernel
theorem dX6_joinedTo_35 : decode cX6_joinedTo 35 = .ok (.aload_n 0, 1) := by decide +kernel
theorem dX6_joinedTo_36 : decode cX6_joinedTo 36 = .ok (.getfield 81, 3) := by decide +kernel
theorem dX6_joinedTo_39 : decode cX6_joinedTo 39 = .ok (.iload_n 1, 1) := by decide +kernel
theorem dX6_joinedTo_40 : decode cX6_joinedTo 40 = .ok (.iaload, 1) := by decide +kernel
theorem dX6_joinedTo_41 : decode cX6_joinedTo 41 = .ok (.ireturn, 1) := by decide +kernel
set_option maxRecDepth 20000 in
theorem ggX6_owe_X6_isPair : GoodIn wsX6_owe wsX6_isPair := goodIn_r _ [6, 7, 8, 5, 9, 10, 11, 12, 13] (by decide +kernel) (by decide +kernel)
set_option maxRecDepth 20000 in
theorem gX6_owe_X6_isPair : GoodIn wsX6_owe (va_wsS RX6 177 yX6_isPair wsX6_isPair) := goodIn_app (goodIn_of _ (by decide +kernel)) ggX6_owe_X6_isPair
set_option maxRecDepth 20000 in
theorem ggX6_owe_X6_in : GoodIn wsX6_owe wsX6_in := goodIn_r _ [13] (by decide +kernel) (by decide +kernel)
set_option maxRecDepth 20000 in
theorem gX6_owe_X6_in : GoodIn wsX6_owe (va_wsS RX6 92 yX6_in wsX6_in) := goodIn_app (goodIn_of _ (by decide +kernel)) ggX6_owe_X6_in
theorem dX6_owe_0 : decode cX6_owe 0 = .ok (.iload_n 1, 1) := by decide +kernel
theorem dX6_owe_1 : decode cX6_owe 1 = .ok (.iload_n 2, 1) := by decide +kernel
theorem dX6_owe_2 : decode cX6_owe 2 = .ok (.invokestatic 177, 3) := by decide +kernel
theorem dX6_owe_5 : decode cX6_owe 5 = .ok (.ifCond .eq 15, 3) := by decide +kernel
theorem dX6_owe_8 : decode cX6_owe 8 = .ok (.iload_n 3, 1) := by decide +kernel
theorem dX6_owe_9 : decode cX6_owe 9 = .ok (.i2l, 1) := by decide +kernel
theorem dX6_owe_10 : decode cX6_owe 10 = .ok (.lconst 0, 1) := by decide +kernel
theorem dX6_owe_11 : decode cX6_owe 11 = .ok (.ldc2_w 225, 3) := by decide +kernel
theorem dX6_owe_14 : decode cX6_owe 14 = .ok (.invokestatic 92, 3) := by decide +kernel
theorem dX6_owe_17 : decode cX6_owe 17 = .ok (.ifCond .ne 6, 3) := by decide +kernel
theorem dX6_owe_20 : decode cX6_owe 20 = .ok (.bipush (-2), 2) := by decide +kernel
theorem dX6_owe_22 : decode cX6_owe 22 = .ok (.ireturn, 1) := by decide +kernel
theorem dX6_owe_23 : decode cX6_owe 23 = .ok (.aload_n 0, 1) := by decide +kernel
theorem dX6_owe_24 : decode cX6_owe 24 = .ok (.getfield 87, 3) := by decide +kernel
theorem dX6_owe_27 : decode cX6_owe 27 = .ok (.bipush 8, 2) := by decide +kernel
theorem dX6_owe_29 : decode cX6_owe 29 = .ok (.iload_n 1, 1) := by decide +kernel
theorem dX6_owe_30 : decode cX6_owe 30 = .ok (.imul, 1) := by decide +kernel
theorem dX6_owe_31 : decode cX6_owe 31 = .ok (.iload_n 2, 1) := by decide +kernel
theorem dX6_owe_32 : decode cX6_owe 32 = .ok (.iadd, 1) := by decide +kernel
theorem dX6_owe_33 : decode cX6_owe 33 = .ok (.iaload, 1) := by decide +kernel
theorem dX6_owe_34 : decode cX6_owe 34 = .ok (.istore 4, 2) := by decide +kernel
theorem dX6_owe_36 : decode cX6_owe 36 = .ok (.aload_n 0, 1) := by decide +kernel
theorem dX6_owe_37 : decode cX6_owe 37 = .ok (.getfield 87, 3) := by decide +kernel
theorem dX6_owe_40 : decode cX6_owe 40 = .ok (.bipush 8, 2) := by decide +kernel
theorem dX6_owe_42 : decode cX6_owe 42 = .ok (.iload_n 1, 1) := by decide +kernel
theorem dX6_owe_43 : decode cX6_owe 43 = .ok (.imul, 1) := by decide +kernel
theorem dX6_owe_44 : decode cX6_owe 44 = .ok (.iload_n 2, 1) := by decide +kernel
theorem dX6_owe_45 : decode cX6_owe 45 = .ok (.iadd, 1) := by decide +kernel
theorem dX6_owe_46 : decode cX6_owe 46 = .ok (.iload_n 3, 1) := by decide +kernel
theorem dX6_owe_47 : decode cX6_owe 47 = .ok (.iastore, 1) := by decide +kernel
theorem dX6_owe_48 : decode cX6_owe 48 = .ok (.iload 4, 2) := by decide +kernel
theorem dX6_owe_50 : decode cX6_owe 50 = .ok (.ireturn, 1) := by decide +kernel
theorem dX6_owed_0 : decode cX6_owed 0 = .ok (.iconst 0, 1) := by decide +kernel
theorem dX6_owed_1 : decode cX6_owed 1 = .ok (.istore_n 3, 1) := by decide +kernel
theorem dX6_owed_2 : decode cX6_owed 2 = .ok (.iconst 0, 1) := by decide +kernel
theorem dX6_owed_3 : decode cX6_owed 3 = .ok (.istore 4, 2) := by decide +kernel
theorem dX6_owed_5 : decode cX6_owed 5 = .ok (.iload 4, 2) := by decide +kernel
theorem dX6_owed_7 : decode cX6_owed 7 = .ok (.bipush 8, 2) := by decide +kernel
theorem dX6_owed_9 : decode cX6_owed 9 = .ok (.if_icmp .ge 37, 3) := by decide +kernel
theorem dX6_owed_12 : decode cX6_owed 12 = .ok (.iload_n 3, 1) := by decide +kernel
theorem dX6_owed_13 : decode cX6_owed 13 = .ok (.iload_n 2, 1) := by decide +kernel
theorem dX6_owed_14 : decode cX6_owed 14 = .ok (.iload 4, 2) := by decide +kernel
theorem dX6_owed_16 : decode cX6_owed 16 = .ok (.ishr, 1) := by decide +kernel
theorem dX6_owed_17 : decode cX6_owed 17 = .ok (.iconst 1, 1) := by decide +kernel
theorem dX6_owed_18 : decode cX6_owed 18 = .ok (.iand, 1) := by decide +kernel
theorem dX6_owed_19 : decode cX6_owed 19 = .ok (.ifCond .ne 18, 3) := by decide +kernel
theorem dX6_owed_22 : decode cX6_owed 22 = .ok (.aload_n 0, 1) := by decide +kernel
theorem dX6_owed_23 : decode cX6_owed 23 = .ok (.getfield 87, 3) := by decide +kernel
theorem dX6_owed_26 : decode cX6_owed 26 = .ok (.bipush 8, 2) := by decide +kernel
theorem dX6_owed_28 : decode cX6_owed 28 = .ok (.iload 4, 2) := by decide +kernel
theorem dX6_owed_30 : decode cX6_owed 30 = .ok (.imul, 1) := by decide +kernel
theorem dX6_owed_31 : decode cX6_owed 31 = .ok (.iload_n 1, 1) := by decide +kernel
theorem dX6_owed_32 : decode cX6_owed 32 = .ok (.iadd, 1) := by decide +kernel
theorem dX6_owed_33 : decode cX6_owed 33 = .ok (.iaload, 1) := by decide +kernel
theorem dX6_owed_34 : decode cX6_owed 34 = .ok (.goto 4, 3) := by decide +kernel
theorem dX6_owed_37 : decode cX6_owed 37 = .ok (.iconst 0, 1) := by decide +kernel
theorem dX6_owed_38 : decode cX6_owed 38 = .ok (.iadd, 1) := by decide +kernel
theorem dX6_owed_39 : decode cX6_owed 39 = .ok (.istore_n 3, 1) := by decide +kernel
theorem dX6_owed_40 : decode cX6_owed 40 = .ok (.iinc 4 1, 3) := by decide +kernel
theorem dX6_owed_43 : decode cX6_owed 43 = .ok (.goto (-38), 3) := by decide +kernel
theorem dX6_owed_46 : decode cX6_owed 46 = .ok (.iload_n 3, 1) := by decide +kernel
theorem dX6_owed_47 : decode cX6_owed 47 = .ok (.ireturn, 1) := by decide +kernel
theorem dX6_owing_0 : decode cX6_owing 0 = .ok (.iconst 0, 1) := by decide +kernel
theorem dX6_owing_1 : decode cX6_owing 1 = .ok (.istore_n 2, 1) := by decide +kernel
theorem dX6_owing_2 : decode cX6_owing 2 = .ok (.iconst 0, 1) := by decide +kernel
theorem dX6_owing_3 : decode cX6_owing 3 = .ok (.istore_n 3, 1) := by decide +kernel
theorem dX6_owing_4 : decode cX6_owing 4 = .ok (.iload_n 3, 1) := by decide +kernel
theorem dX6_owing_5 : decode cX6_owing 5 = .ok (.bipush 8, 2) := by decide +kernel
theorem dX6_owing_7 : decode cX6_owing 7 = .ok (.if_icmp .ge 23, 3) := by decide +kernel
theorem dX6_owing_10 : decode cX6_owing 10 = .ok (.iload_n 2, 1) := by decide +kernel
theorem dX6_owing_11 : decode cX6_owing 11 = .ok (.aload_n 0, 1) := by decide +kernel
theorem dX6_owing_12 : decode cX6_owing 12 = .ok (.getfield 87, 3) := by decide +kernel
theorem dX6_owing_15 : decode cX6_owing 15 = .ok (.bipush 8, 2) := by decide +kernel
theorem dX6_owing_17 : decode cX6_owing 17 = .ok (.iload_n 1, 1) := by decide +kernel
theorem dX6_owing_18 : decode cX6_owing 18 = .ok (.imul, 1) := by decide +kernel
theorem dX6_owing_19 : decode cX6_owing 19 = .ok (.iload_n 3, 1) := by decide +kernel
theorem dX6_owing_20 : decode cX6_owing 20 = .ok (.iadd, 1) := by decide +kernel
theorem dX6_owing_21 : decode cX6_owing 21 = .ok (.iaload, 1) := by decide +kernel
theorem dX6_owing_22 : decode cX6_owing 22 = .ok (.iadd, 1) := by decide +kernel
theorem dX6_owing_23 : decode cX6_owing 23 = .ok (.istore_n 2, 1) := by decide +kernel
theorem dX6_owing_24 : decode cX6_owing 24 = .ok (.iinc 3 1, 3) := by decide +kernel
theorem dX6_owing_27 : decode cX6_owing 27 = .ok (.goto (-23), 3) := by decide +kernel
theorem dX6_owing_30 : decode cX6_owing 30 = .ok (.iload_n 2, 1) := by decide +kernel
theorem dX6_owing_31 : decode cX6_owing 31 = .ok (.ireturn, 1) := by decide +kernel
set_option maxRecDepth 20000 in
theorem ggX6_net_X6_isDealer : GoodIn wsX6_net wsX6_isDealer := goodIn_r _ [5, 6, 7, 8, 4, 9] (by decide +kernel) (by decide +kernel)
set_option maxRecDepth 20000 in
theorem gX6_net_X6_isDealer : GoodIn wsX6_net (va_wsS RX6 140 yX6_isDealer wsX6_isDealer) := goodIn_app (goodIn_of _ (by decide +kernel)) ggX6_net_X6_isDealer
set_option maxRecDepth 20000 in
theorem ggX6_net_X6_owed : GoodIn wsX6_net wsX6_owed := goodIn_r _ [13, 14, 19, 20, 21, 22, 23, 24, 25, 26, 27, 28, 29, 30, 31, 32, 33, 34, 35, 36, 37, 38, 39, 40, 41, 42, 43, 44, 45, 46, 47, 48, 49, 50, 51, 52, 53, 54, 55, 56] (by decide +kernel) (by decide +kernel)
set_option maxRecDepth 20000 in
theorem gX6_net_X6_owed : GoodIn wsX6_net (wsV RX6 227 RX6 yX6_owed wsX6_owed) := goodIn_app (goodIn_of _ (by decide +kernel)) ggX6_net_X6_owed
set_option maxRecDepth 20000 in
theorem ggX6_net_X6_owing : GoodIn wsX6_net wsX6_owing := goodIn_r _ [18, 14, 19, 20, 21, 22, 23, 24, 25, 26, 27, 28, 29, 30, 31, 32, 33, 34, 35, 36, 37, 38, 39, 40, 41, 42, 43, 44, 45, 46, 47, 48, 49, 50, 51, 52, 53, 54, 55, 56] (by decide +kernel) (by decide +kernel)
set_option maxRecDepth 20000 in
theorem gX6_net_X6_owing : GoodIn wsX6_net (wsV RX6 230 RX6 yX6_owing wsX6_owing) := goodIn_app (goodIn_of _ (by decide +kernel)) ggX6_net_X6_owing
theorem dX6_net_0 : decode cX6_net 0 = .ok (.iload_n 1, 1) := by decide +kernel
theorem dX6_net_1 : decode cX6_net 1 = .ok (.invokestatic 140, 3) := by decide +kernel
theorem dX6_net_4 : decode cX6_net 4 = .ok (.ifCond .eq 18, 3) := by decide +kernel
theorem dX6_net_7 : decode cX6_net 7 = .ok (.aload_n 0, 1) := by decide +kernel
theorem dX6_net_8 : decode cX6_net 8 = .ok (.iload_n 1, 1) := by decide +kernel
theorem dX6_net_9 : decode cX6_net 9 = .ok (.iconst 0, 1) := by decide +kernel
theorem dX6_net_10 : decode cX6_net 10 = .ok (.invokevirtual 227, 3) := by decide +kernel
theorem dX6_net_13 : decode cX6_net 13 = .ok (.aload_n 0, 1) := by decide +kernel
theorem dX6_net_14 : decode cX6_net 14 = .ok (.iload_n 1, 1) := by decide +kernel
theorem dX6_net_15 : decode cX6_net 15 = .ok (.invokevirtual 230, 3) := by decide +kernel
theorem dX6_net_18 : decode cX6_net 18 = .ok (.isub, 1) := by decide +kernel
theorem dX6_net_19 : decode cX6_net 19 = .ok (.goto 5, 3) := by decide +kernel
theorem dX6_net_22 : decode cX6_net 22 = .ok (.ldc 159, 2) := by decide +kernel
theorem dX6_net_24 : decode cX6_net 24 = .ok (.ireturn, 1) := by decide +kernel
set_option maxRecDepth 20000 in
theorem ggX6_fall_X6_isDealer : GoodIn wsX6_fall wsX6_isDealer := goodIn_r _ [5, 6, 7, 8, 4, 9] (by decide +kernel) (by decide +kernel)
set_option maxRecDepth 20000 in
theorem gX6_fall_X6_isDealer : GoodIn wsX6_fall (va_wsS RX6 140 yX6_isDealer wsX6_isDealer) := goodIn_app (goodIn_of _ (by decide +kernel)) ggX6_fall_X6_isDealer
set_option maxRecDepth 20000 in
theorem ggX6_fall_X6_in : GoodIn wsX6_fall wsX6_in := goodIn_r _ [9] (by decide +kernel) (by decide +kernel)
set_option maxRecDepth 20000 in
theorem gX6_fall_X6_in : GoodIn wsX6_fall (va_wsS RX6 92 yX6_in wsX6_in) := goodIn_app (goodIn_of _ (by decide +kernel)) ggX6_fall_X6_in
set_option maxRecDepth 20000 in
theorem ggX6_fall_X6_owed : GoodIn wsX6_fall wsX6_owed := goodIn_r _ [13, 14, 19, 20, 21, 22, 23, 24, 25, 26, 27, 28, 29, 30, 31, 32, 33, 34, 35, 36, 37, 38, 39, 40, 41, 42, 43, 44, 45, 46, 47, 48, 49, 50, 51, 52, 53, 54, 55, 56] (by decide +kernel) (by decide +kernel)
set_option maxRecDepth 20000 in
theorem gX6_fall_X6_owed : GoodIn wsX6_fall (wsV RX6 227 RX6 yX6_owed wsX6_owed) := goodIn_app (goodIn_of _ (by decide +kernel)) ggX6_fall_X6_owed
set_option maxRecDepth 20000 in
theorem ggX6_fall_X6_owing : GoodIn wsX6_fall wsX6_owing := goodIn_r _ [18, 14, 19, 20, 21, 22, 23, 24, 25, 26, 27, 28, 29, 30, 31, 32, 33, 34, 35, 36, 37, 38, 39, 40, 41, 42, 43, 44, 45, 46, 47, 48, 49, 50, 51, 52, 53, 54, 55, 56] (by decide +kernel) (by decide +kernel)
set_option maxRecDepth 20000 in
theorem gX6_fall_X6_owing : GoodIn wsX6_fall (wsV RX6 230 RX6 yX6_owing wsX6_owing) := goodIn_app (goodIn_of _ (by decide +kernel)) ggX6_fall_X6_owing
theorem dX6_fall_0 : decode cX6_fall 0 = .ok (.iload_n 1, 1) := by decide +kernel
theorem dX6_fall_1 : decode cX6_fall 1 = .ok (.invokestatic 140, 3) := by decide +kernel
theorem dX6_fall_4 : decode cX6_fall 4 = .ok (.ifCond .eq 15, 3) := by decide +kernel
theorem dX6_fall_7 : decode cX6_fall 7 = .ok (.iload_n 2, 1) := by decide +kernel
theorem dX6_fall_8 : decode cX6_fall 8 = .ok (.i2l, 1) := by decide +kernel
theorem dX6_fall_9 : decode cX6_fall 9 = .ok (.lconst 0, 1) := by decide +kernel
theorem dX6_fall_10 : decode cX6_fall 10 = .ok (.ldc2_w 143, 3) := by decide +kernel
theorem dX6_fall_13 : decode cX6_fall 13 = .ok (.invokestatic 92, 3) := by decide +kernel
theorem dX6_fall_16 : decode cX6_fall 16 = .ok (.ifCond .ne 6, 3) := by decide +kernel
theorem dX6_fall_19 : decode cX6_fall 19 = .ok (.bipush (-2), 2) := by decide +kernel
theorem dX6_fall_21 : decode cX6_fall 21 = .ok (.ireturn, 1) := by decide +kernel
theorem dX6_fall_22 : decode cX6_fall 22 = .ok (.iconst 1, 1) := by decide +kernel
theorem dX6_fall_23 : decode cX6_fall 23 = .ok (.iload_n 1, 1) := by decide +kernel
theorem dX6_fall_24 : decode cX6_fall 24 = .ok (.ishl, 1) := by decide +kernel
theorem dX6_fall_25 : decode cX6_fall 25 = .ok (.istore_n 3, 1) := by decide +kernel
theorem dX6_fall_26 : decode cX6_fall 26 = .ok (.iconst 0, 1) := by decide +kernel
theorem dX6_fall_27 : decode cX6_fall 27 = .ok (.istore 4, 2) := by decide +kernel
theorem dX6_fall_29 : decode cX6_fall 29 = .ok (.iload_n 3, 1) := by decide +kernel
theorem dX6_fall_30 : decode cX6_fall 30 = .ok (.iload 4, 2) := by decide +kernel
theorem dX6_fall_32 : decode cX6_fall 32 = .ok (.if_icmp .eq 55, 3) := by decide +kernel
theorem dX6_fall_35 : decode cX6_fall 35 = .ok (.iload_n 3, 1) := by decide +kernel
theorem dX6_fall_36 : decode cX6_fall 36 = .ok (.istore 4, 2) := by decide +kernel
theorem dX6_fall_38 : decode cX6_fall 38 = .ok (.iconst 0, 1) := by decide +kernel
theorem dX6_fall_39 : decode cX6_fall 39 = .ok (.istore 5, 2) := by decide +kernel
theorem dX6_fall_41 : decode cX6_fall 41 = .ok (.iload 5, 2) := by decide +kernel
theorem dX6_fall_43 : decode cX6_fall 43 = .ok (.bipush 8, 2) := by decide +kernel
theorem dX6_fall_45 : decode cX6_fall 45 = .ok (.if_icmp .ge 39, 3) := by decide +kernel
theorem dX6_fall_48 : decode cX6_fall 48 = .ok (.iload_n 3, 1) := by decide +kernel
theorem dX6_fall_49 : decode cX6_fall 49 = .ok (.iload_n 2, 1) := by decide +kernel
theorem dX6_fall_50 : decode cX6_fall 50 = .ok (.aload_n 0, 1) := by decide +kernel
theorem dX6_fall_51 : decode cX6_fall 51 = .ok (.iload 5, 2) := by decide +kernel
theorem dX6_fall_53 : decode cX6_fall 53 = .ok (.iload 4, 2) := by decide +kernel
theorem dX6_fall_55 : decode cX6_fall 55 = .ok (.invokevirtual 227, 3) := by decide +kernel
theorem dX6_fall_58 : decode cX6_fall 58 = .ok (.iadd, 1) := by decide +kernel
theorem dX6_fall_59 : decode cX6_fall 59 = .ok (.aload_n 0, 1) := by decide +kernel
theorem dX6_fall_60 : decode cX6_fall 60 = .ok (.iload 5, 2) := by decide +kernel
theorem dX6_fall_62 : decode cX6_fall 62 = .ok (.invokevirtual 230, 3) := by decide +kernel
theorem dX6_fall_65 : decode cX6_fall 65 = .ok (.if_icmp .ge 10, 3) := by decide +kernel
theorem dX6_fall_68 : decode cX6_fall 68 = .ok (.iconst 1, 1) := by decide +kernel
theorem dX6_fall_69 : decode cX6_fall 69 = .ok (.iload 5, 2) := by decide +kernel
theorem dX6_fall_71 : decode cX6_fall 71 = .ok (.ishl, 1) := by decide +kernel
theorem dX6_fall_72 : decode cX6_fall 72 = .ok (.goto 4, 3) := by decide +kernel
theorem dX6_fall_75 : decode cX6_fall 75 = .ok (.iconst 0, 1) := by decide +kernel
theorem dX6_fall_76 : decode cX6_fall 76 = .ok (.ior, 1) := by decide +kernel
theorem dX6_fall_77 : decode cX6_fall 77 = .ok (.istore_n 3, 1) := by decide +kernel
theorem dX6_fall_78 : decode cX6_fall 78 = .ok (.iinc 5 1, 3) := by decide +kernel
theorem dX6_fall_81 : decode cX6_fall 81 = .ok (.goto (-40), 3) := by decide +kernel
theorem dX6_fall_84 : decode cX6_fall 84 = .ok (.goto (-55), 3) := by decide +kernel
theorem dX6_fall_87 : decode cX6_fall 87 = .ok (.iload_n 3, 1) := by decide +kernel
theorem dX6_fall_88 : decode cX6_fall 88 = .ok (.ireturn, 1) := by decide +kernel
theorem dX6_standing_0 : decode cX6_standing 0 = .ok (.iconst 0, 1) := by decide +kernel
theorem dX6_standing_1 : decode cX6_standing 1 = .ok (.istore_n 1, 1) := by decide +kernel
theorem dX6_standing_2 : decode cX6_standing 2 = .ok (.iconst 0, 1) := by decide +kernel
theorem dX6_standing_3 : decode cX6_standing 3 = .ok (.istore_n 2, 1) := by decide +kernel
theorem dX6_standing_4 : decode cX6_standing 4 = .ok (.iload_n 2, 1) := by decide +kernel
theorem dX6_standing_5 : decode cX6_standing 5 = .ok (.aload_n 0, 1) := by decide +kernel
theorem dX6_standing_6 : decode cX6_standing 6 = .ok (.getfield 137, 3) := by decide +kernel
theorem dX6_standing_9 : decode cX6_standing 9 = .ok (.if_icmp .ge 18, 3) := by decide +kernel
theorem dX6_standing_12 : decode cX6_standing 12 = .ok (.iload_n 1, 1) := by decide +kernel
theorem dX6_standing_13 : decode cX6_standing 13 = .ok (.aload_n 0, 1) := by decide +kernel
theorem dX6_standing_14 : decode cX6_standing 14 = .ok (.getfield 56, 3) := by decide +kernel
theorem dX6_standing_17 : decode cX6_standing 17 = .ok (.iload_n 2, 1) := by decide +kernel
theorem dX6_standing_18 : decode cX6_standing 18 = .ok (.iaload, 1) := by decide +kernel
theorem dX6_standing_19 : decode cX6_standing 19 = .ok (.iadd, 1) := by decide +kernel
theorem dX6_standing_20 : decode cX6_standing 20 = .ok (.istore_n 1, 1) := by decide +kernel
theorem dX6_standing_21 : decode cX6_standing 21 = .ok (.iinc 2 1, 3) := by decide +kernel
theorem dX6_standing_24 : decode cX6_standing 24 = .ok (.goto (-20), 3) := by decide +kernel
theorem dX6_standing_27 : decode cX6_standing 27 = .ok (.iload_n 1, 1) := by decide +kernel
theorem dX6_standing_28 : decode cX6_standing 28 = .ok (.ireturn, 1) := by decide +kernel
set_option maxRecDepth 20000 in
theorem ggX6_allDebts_X6_owing : GoodIn wsX6_allDebts wsX6_owing := goodIn_r _ [5, 6, 7, 8, 9, 10, 11, 12, 13, 14, 15, 16, 17, 18, 19, 20, 21, 22, 23, 24, 25, 26, 27, 28, 29, 30, 31, 32, 33, 34, 35, 36, 37, 38, 39, 40, 41, 42, 43, 44] (by decide +kernel) (by decide +kernel)
set_option maxRecDepth 20000 in
theorem gX6_allDebts_X6_owing : GoodIn wsX6_allDebts (wsV RX6 230 RX6 yX6_owing wsX6_owing) := goodIn_app (goodIn_of _ (by decide +kernel)) ggX6_allDebts_X6_owing
theorem dX6_allDebts_0 : decode cX6_allDebts 0 = .ok (.iconst 0, 1) := by decide +kernel
theorem dX6_allDebts_1 : decode cX6_allDebts 1 = .ok (.istore_n 1, 1) := by decide +kernel
theorem dX6_allDebts_2 : decode cX6_allDebts 2 = .ok (.iconst 0, 1) := by decide +kernel
theorem dX6_allDebts_3 : decode cX6_allDebts 3 = .ok (.istore_n 2, 1) := by decide +kernel
theorem dX6_allDebts_4 : decode cX6_allDebts 4 = .ok (.iload_n 2, 1) := by decide +kernel
theorem dX6_allDebts_5 : decode cX6_allDebts 5 = .ok (.bipush 8, 2) := by decide +kernel
theorem dX6_allDebts_7 : decode cX6_allDebts 7 = .ok (.if_icmp .ge 17, 3) := by decide +kernel
theorem dX6_allDebts_10 : decode cX6_allDebts 10 = .ok (.iload_n 1, 1) := by decide +kernel
theorem dX6_allDebts_11 : decode cX6_allDebts 11 = .ok (.aload_n 0, 1) := by decide +kernel
theorem dX6_allDebts_12 : decode cX6_allDebts 12 = .ok (.iload_n 2, 1) := by decide +kernel
theorem dX6_allDebts_13 : decode cX6_allDebts 13 = .ok (.invokevirtual 230, 3) := by decide +kernel
theorem dX6_allDebts_16 : decode cX6_allDebts 16 = .ok (.iadd, 1) := by decide +kernel
theorem dX6_allDebts_17 : decode cX6_allDebts 17 = .ok (.istore_n 1, 1) := by decide +kernel
theorem dX6_allDebts_18 : decode cX6_allDebts 18 = .ok (.iinc 2 1, 3) := by decide +kernel
theorem dX6_allDebts_21 : decode cX6_allDebts 21 = .ok (.goto (-17), 3) := by decide +kernel
theorem dX6_allDebts_24 : decode cX6_allDebts 24 = .ok (.iload_n 1, 1) := by decide +kernel
theorem dX6_allDebts_25 : decode cX6_allDebts 25 = .ok (.ireturn, 1) := by decide +kernel
set_option maxRecDepth 20000 in
theorem ggX6_count_X6_standing : GoodIn wsX6_count wsX6_standing := goodIn_r _ [10, 2, 11, 21, 22, 23, 24, 25, 26, 27, 28, 29, 30, 31, 32, 33, 34, 35, 36, 37, 38, 39, 40, 41, 42, 43, 44, 45, 46, 47, 48, 49, 50, 51, 52, 53, 54, 55, 56, 57, 58] (by decide +kernel) (by decide +kernel)
set_option maxRecDepth 20000 in
theorem gX6_count_X6_standing : GoodIn wsX6_count (wsV RX6 233 RX6 yX6_standing wsX6_standing) := goodIn_app (goodIn_of _ (by decide +kernel)) ggX6_count_X6_standing
set_option maxRecDepth 20000 in
theorem ggX6_count_X6_allDebts : GoodIn wsX6_count wsX6_allDebts := goodIn_r _ [15, 16, 17, 18, 9, 19, 20, 21, 22, 23, 24, 25, 26, 27, 28, 29, 30, 31, 32, 33, 34, 35, 36, 37, 38, 39, 40, 41, 42, 43, 44, 45, 46, 47, 48, 49, 50, 51, 52, 53, 54, 55, 56, 57, 58] (by decide +kernel) (by decide +kernel)
set_option maxRecDepth 20000 in
theorem gX6_count_X6_allDebts : GoodIn wsX6_count (wsV RX6 237 RX6 yX6_allDebts wsX6_allDebts) := goodIn_app (goodIn_of _ (by decide +kernel)) ggX6_count_X6_allDebts
theorem dX6_count_0 : decode cX6_count 0 = .ok (.iload_n 1, 1) := by decide +kernel
theorem dX6_count_1 : decode cX6_count 1 = .ok (.tableswitch 78 0 6 #[43, 48, 53, 58, 63, 68, 73], 43) := by decide +kernel
theorem dX6_count_44 : decode cX6_count 44 = .ok (.aload_n 0, 1) := by decide +kernel
theorem dX6_count_45 : decode cX6_count 45 = .ok (.getfield 104, 3) := by decide +kernel
theorem dX6_count_48 : decode cX6_count 48 = .ok (.ireturn, 1) := by decide +kernel
theorem dX6_count_49 : decode cX6_count 49 = .ok (.aload_n 0, 1) := by decide +kernel
theorem dX6_count_50 : decode cX6_count 50 = .ok (.getfield 137, 3) := by decide +kernel
theorem dX6_count_53 : decode cX6_count 53 = .ok (.ireturn, 1) := by decide +kernel
theorem dX6_count_54 : decode cX6_count 54 = .ok (.aload_n 0, 1) := by decide +kernel
theorem dX6_count_55 : decode cX6_count 55 = .ok (.invokevirtual 233, 3) := by decide +kernel
theorem dX6_count_58 : decode cX6_count 58 = .ok (.ireturn, 1) := by decide +kernel
theorem dX6_count_59 : decode cX6_count 59 = .ok (.aload_n 0, 1) := by decide +kernel
theorem dX6_count_60 : decode cX6_count 60 = .ok (.getfield 162, 3) := by decide +kernel
theorem dX6_count_63 : decode cX6_count 63 = .ok (.ireturn, 1) := by decide +kernel
theorem dX6_count_64 : decode cX6_count 64 = .ok (.aload_n 0, 1) := by decide +kernel
theorem dX6_count_65 : decode cX6_count 65 = .ok (.getfield 212, 3) := by decide +kernel
theorem dX6_count_68 : decode cX6_count 68 = .ok (.ireturn, 1) := by decide +kernel
theorem dX6_count_69 : decode cX6_count 69 = .ok (.aload_n 0, 1) := by decide +kernel
theorem dX6_count_70 : decode cX6_count 70 = .ok (.getfield 34, 3) := by decide +kernel
theorem dX6_count_73 : decode cX6_count 73 = .ok (.ireturn, 1) := by decide +kernel
theorem dX6_count_74 : decode cX6_count 74 = .ok (.aload_n 0, 1) := by decide +kernel
theorem dX6_count_75 : decode cX6_count 75 = .ok (.invokevirtual 237, 3) := by decide +kernel
theorem dX6_count_78 : decode cX6_count 78 = .ok (.ireturn, 1) := by decide +kernel
theorem dX6_count_79 : decode cX6_count 79 = .ok (.bipush (-2), 2) := by decide +kernel
theorem dX6_count_81 : decode cX6_count 81 = .ok (.ireturn, 1) := by decide +kernel
set_option maxRecDepth 20000 in
theorem ggX6_digest_X6_count : GoodIn wsX6_digest wsX6_count := goodIn_r _ [22, 5, 11, 12, 16, 23, 24, 25, 26, 21, 27, 28, 29, 30, 31, 32, 33, 34, 35, 36, 37, 56, 57, 58, 59, 60, 61, 62, 63, 64, 65, 66, 67, 68, 69, 70, 71, 72, 73, 74, 75, 76, 77, 78, 79, 80, 81, 82, 83, 84, 85, 86, 87, 88, 89, 90, 91, 92, 93] (by decide +kernel) (by decide +kernel)
set_option maxRecDepth 20000 in
theorem gX6_digest_X6_count : GoodIn wsX6_digest (wsV RX6 244 RX6 yX6_count wsX6_count) := goodIn_app (goodIn_of _ (by decide +kernel)) ggX6_digest_X6_count
set_option maxRecDepth 20000 in
theorem ggX6_digest_X6_saleOf : GoodIn wsX6_digest wsX6_saleOf := goodIn_r _ [41, 42, 43, 44, 45, 46, 47, 28, 56, 57, 58, 59, 60, 61, 62, 63, 64, 65, 66, 67, 68, 69, 70, 71, 72, 73, 74, 75, 76, 77, 78, 79, 80, 81, 82, 83, 84, 85, 86, 87, 88, 89, 90, 91, 92, 93] (by decide +kernel) (by decide +kernel)
set_option maxRecDepth 20000 in
theorem gX6_digest_X6_saleOf : GoodIn wsX6_digest (wsV RX6 152 RX6 yX6_saleOf wsX6_saleOf) := goodIn_app (goodIn_of _ (by decide +kernel)) ggX6_digest_X6_saleOf
set_option maxRecDepth 20000 in
theorem ggX6_digest_X6_gainOf : GoodIn wsX6_digest wsX6_gainOf := goodIn_r _ [51, 11, 28, 43, 45, 44, 56, 57, 58, 59, 60, 61, 62, 63, 64, 65, 66, 67, 68, 69, 70, 71, 72, 73, 74, 75, 76, 77, 78, 79, 80, 81, 82, 83, 84, 85, 86, 87, 88, 89, 90, 91, 92, 93] (by decide +kernel) (by decide +kernel)
set_option maxRecDepth 20000 in
theorem gX6_digest_X6_gainOf : GoodIn wsX6_digest (wsV RX6 156 RX6 yX6_gainOf wsX6_gainOf) := goodIn_app (goodIn_of _ (by decide +kernel)) ggX6_digest_X6_gainOf
set_option maxRecDepth 20000 in
theorem ggX6_digest_X6_owed : GoodIn wsX6_digest wsX6_owed := goodIn_r _ [55, 37, 56, 57, 58, 59, 60, 61, 62, 63, 64, 65, 66, 67, 68, 69, 70, 71, 72, 73, 74, 75, 76, 77, 78, 79, 80, 81, 82, 83, 84, 85, 86, 87, 88, 89, 90, 91, 92, 93] (by decide +kernel) (by decide +kernel)
set_option maxRecDepth 20000 in
theorem gX6_digest_X6_owed : GoodIn wsX6_digest (wsV RX6 227 RX6 yX6_owed wsX6_owed) := goodIn_app (goodIn_of _ (by decide +kernel)) ggX6_digest_X6_owed
set_option maxRecDepth 20000 in
theorem ggX6_digest_X6_owing : GoodIn wsX6_digest wsX6_owing := goodIn_r _ [36, 37, 56, 57, 58, 59, 60, 61, 62, 63, 64, 65, 66, 67, 68, 69, 70, 71, 72, 73, 74, 75, 76, 77, 78, 79, 80, 81, 82, 83, 84, 85, 86, 87, 88, 89, 90, 91, 92, 93] (by decide +kernel) (by decide +kernel)
set_option maxRecDepth 20000 in
theorem gX6_digest_X6_owing : GoodIn wsX6_digest (wsV RX6 230 RX6 yX6_owing wsX6_owing) := goodIn_app (goodIn_of _ (by decide +kernel)) ggX6_digest_X6_owing
theorem dX6_digest_0 : decode cX6_digest 0 = .ok (.ldc2_w 240, 3) := by decide +kernel
theorem dX6_digest_3 : decode cX6_digest 3 = .ok (.lstore_n 1, 1) := by decide +kernel
theorem dX6_digest_4 : decode cX6_digest 4 = .ok (.iconst 0, 1) := by decide +kernel
theorem dX6_digest_5 : decode cX6_digest 5 = .ok (.istore_n 3, 1) := by decide +kernel
theorem dX6_digest_6 : decode cX6_digest 6 = .ok (.iload_n 3, 1) := by decide +kernel
theorem dX6_digest_7 : decode cX6_digest 7 = .ok (.bipush 7, 2) := by decide +kernel
theorem dX6_digest_9 : decode cX6_digest 9 = .ok (.if_icmp .ge 22, 3) := by decide +kernel
theorem dX6_digest_12 : decode cX6_digest 12 = .ok (.ldc2_w 242, 3) := by decide +kernel
theorem dX6_digest_15 : decode cX6_digest 15 = .ok (.lload_n 1, 1) := by decide +kernel
theorem dX6_digest_16 : decode cX6_digest 16 = .ok (.lmul, 1) := by decide +kernel
theorem dX6_digest_17 : decode cX6_digest 17 = .ok (.aload_n 0, 1) := by decide +kernel
theorem dX6_digest_18 : decode cX6_digest 18 = .ok (.iload_n 3, 1) := by decide +kernel
theorem dX6_digest_19 : decode cX6_digest 19 = .ok (.invokevirtual 244, 3) := by decide +kernel
theorem dX6_digest_22 : decode cX6_digest 22 = .ok (.i2l, 1) := by decide +kernel
theorem dX6_digest_23 : decode cX6_digest 23 = .ok (.ladd, 1) := by decide +kernel
theorem dX6_digest_24 : decode cX6_digest 24 = .ok (.lstore_n 1, 1) := by decide +kernel
theorem dX6_digest_25 : decode cX6_digest 25 = .ok (.iinc 3 1, 3) := by decide +kernel
theorem dX6_digest_28 : decode cX6_digest 28 = .ok (.goto (-22), 3) := by decide +kernel
theorem dX6_digest_31 : decode cX6_digest 31 = .ok (.iconst 0, 1) := by decide +kernel
theorem dX6_digest_32 : decode cX6_digest 32 = .ok (.istore_n 3, 1) := by decide +kernel
theorem dX6_digest_33 : decode cX6_digest 33 = .ok (.iload_n 3, 1) := by decide +kernel
theorem dX6_digest_34 : decode cX6_digest 34 = .ok (.bipush 10, 2) := by decide +kernel
theorem dX6_digest_36 : decode cX6_digest 36 = .ok (.if_icmp .ge 37, 3) := by decide +kernel
theorem dX6_digest_39 : decode cX6_digest 39 = .ok (.ldc2_w 242, 3) := by decide +kernel
theorem dX6_digest_42 : decode cX6_digest 42 = .ok (.lload_n 1, 1) := by decide +kernel
theorem dX6_digest_43 : decode cX6_digest 43 = .ok (.lmul, 1) := by decide +kernel
theorem dX6_digest_44 : decode cX6_digest 44 = .ok (.aload_n 0, 1) := by decide +kernel
theorem dX6_digest_45 : decode cX6_digest 45 = .ok (.getfield 7, 3) := by decide +kernel
theorem dX6_digest_48 : decode cX6_digest 48 = .ok (.iload_n 3, 1) := by decide +kernel
theorem dX6_digest_49 : decode cX6_digest 49 = .ok (.iaload, 1) := by decide +kernel
theorem dX6_digest_50 : decode cX6_digest 50 = .ok (.i2l, 1) := by decide +kernel
theorem dX6_digest_51 : decode cX6_digest 51 = .ok (.ladd, 1) := by decide +kernel
theorem dX6_digest_52 : decode cX6_digest 52 = .ok (.lstore_n 1, 1) := by decide +kernel
theorem dX6_digest_53 : decode cX6_digest 53 = .ok (.ldc2_w 242, 3) := by decide +kernel
theorem dX6_digest_56 : decode cX6_digest 56 = .ok (.lload_n 1, 1) := by decide +kernel
theorem dX6_digest_57 : decode cX6_digest 57 = .ok (.lmul, 1) := by decide +kernel
theorem dX6_digest_58 : decode cX6_digest 58 = .ok (.aload_n 0, 1) := by decide +kernel
theorem dX6_digest_59 : decode cX6_digest 59 = .ok (.getfield 13, 3) := by decide +kernel
theorem dX6_digest_62 : decode cX6_digest 62 = .ok (.iload_n 3, 1) := by decide +kernel
theorem dX6_digest_63 : decode cX6_digest 63 = .ok (.iaload, 1) := by decide +kernel
theorem dX6_digest_64 : decode cX6_digest 64 = .ok (.i2l, 1) := by decide +kernel
theorem dX6_digest_65 : decode cX6_digest 65 = .ok (.ladd, 1) := by decide +kernel
theorem dX6_digest_66 : decode cX6_digest 66 = .ok (.lstore_n 1, 1) := by decide +kernel
theorem dX6_digest_67 : decode cX6_digest 67 = .ok (.iinc 3 1, 3) := by decide +kernel
theorem dX6_digest_70 : decode cX6_digest 70 = .ok (.goto (-37), 3) := by decide +kernel
theorem dX6_digest_73 : decode cX6_digest 73 = .ok (.iconst 0, 1) := by decide +kernel
theorem dX6_digest_74 : decode cX6_digest 74 = .ok (.istore_n 3, 1) := by decide +kernel
theorem dX6_digest_75 : decode cX6_digest 75 = .ok (.iload_n 3, 1) := by decide +kernel
theorem dX6_digest_76 : decode cX6_digest 76 = .ok (.aload_n 0, 1) := by decide +kernel
theorem dX6_digest_77 : decode cX6_digest 77 = .ok (.getfield 104, 3) := by decide +kernel
theorem dX6_digest_80 : decode cX6_digest 80 = .ok (.if_icmp .ge 104, 3) := by decide +kernel
theorem dX6_digest_83 : decode cX6_digest 83 = .ok (.ldc2_w 242, 3) := by decide +kernel
theorem dX6_digest_86 : decode cX6_digest 86 = .ok (.lload_n 1, 1) := by decide +kernel
theorem dX6_digest_87 : decode cX6_digest 87 = .ok (.lmul, 1) := by decide +kernel
theorem dX6_digest_88 : decode cX6_digest 88 = .ok (.aload_n 0, 1) := by decide +kernel
theorem dX6_digest_89 : decode cX6_digest 89 = .ok (.getfield 16, 3) := by decide +kernel
theorem dX6_digest_92 : decode cX6_digest 92 = .ok (.iload_n 3, 1) := by decide +kernel
theorem dX6_digest_93 : decode cX6_digest 93 = .ok (.iaload, 1) := by decide +kernel
theorem dX6_digest_94 : decode cX6_digest 94 = .ok (.i2l, 1) := by decide +kernel
theorem dX6_digest_95 : decode cX6_digest 95 = .ok (.ladd, 1) := by decide +kernel
theorem dX6_digest_96 : decode cX6_digest 96 = .ok (.lstore_n 1, 1) := by decide +kernel
theorem dX6_digest_97 : decode cX6_digest 97 = .ok (.iconst 0, 1) := by decide +kernel
theorem dX6_digest_98 : decode cX6_digest 98 = .ok (.istore 4, 2) := by decide +kernel
theorem dX6_digest_100 : decode cX6_digest 100 = .ok (.iload 4, 2) := by decide +kernel
theorem dX6_digest_102 : decode cX6_digest 102 = .ok (.aload_n 0, 1) := by decide +kernel
theorem dX6_digest_103 : decode cX6_digest 103 = .ok (.getfield 16, 3) := by decide +kernel
theorem dX6_digest_106 : decode cX6_digest 106 = .ok (.iload_n 3, 1) := by decide +kernel
theorem dX6_digest_107 : decode cX6_digest 107 = .ok (.iaload, 1) := by decide +kernel
theorem dX6_digest_108 : decode cX6_digest 108 = .ok (.if_icmp .ge 28, 3) := by decide +kernel
theorem dX6_digest_111 : decode cX6_digest 111 = .ok (.ldc2_w 242, 3) := by decide +kernel
theorem dX6_digest_114 : decode cX6_digest 114 = .ok (.lload_n 1, 1) := by decide +kernel
theorem dX6_digest_115 : decode cX6_digest 115 = .ok (.lmul, 1) := by decide +kernel
theorem dX6_digest_116 : decode cX6_digest 116 = .ok (.aload_n 0, 1) := by decide +kernel
theorem dX6_digest_117 : decode cX6_digest 117 = .ok (.getfield 19, 3) := by decide +kernel
theorem dX6_digest_120 : decode cX6_digest 120 = .ok (.iconst 5, 1) := by decide +kernel
theorem dX6_digest_121 : decode cX6_digest 121 = .ok (.iload_n 3, 1) := by decide +kernel
theorem dX6_digest_122 : decode cX6_digest 122 = .ok (.imul, 1) := by decide +kernel
theorem dX6_digest_123 : decode cX6_digest 123 = .ok (.iload 4, 2) := by decide +kernel
theorem dX6_digest_125 : decode cX6_digest 125 = .ok (.iadd, 1) := by decide +kernel
theorem dX6_digest_126 : decode cX6_digest 126 = .ok (.iaload, 1) := by decide +kernel
theorem dX6_digest_127 : decode cX6_digest 127 = .ok (.i2l, 1) := by decide +kernel
theorem dX6_digest_128 : decode cX6_digest 128 = .ok (.ladd, 1) := by decide +kernel
theorem dX6_digest_129 : decode cX6_digest 129 = .ok (.lstore_n 1, 1) := by decide +kernel
theorem dX6_digest_130 : decode cX6_digest 130 = .ok (.iinc 4 1, 3) := by decide +kernel
theorem dX6_digest_133 : decode cX6_digest 133 = .ok (.goto (-33), 3) := by decide +kernel
theorem dX6_digest_136 : decode cX6_digest 136 = .ok (.ldc2_w 242, 3) := by decide +kernel
theorem dX6_digest_139 : decode cX6_digest 139 = .ok (.lload_n 1, 1) := by decide +kernel
theorem dX6_digest_140 : decode cX6_digest 140 = .ok (.lmul, 1) := by decide +kernel
theorem dX6_digest_141 : decode cX6_digest 141 = .ok (.aload_n 0, 1) := by decide +kernel
theorem dX6_digest_142 : decode cX6_digest 142 = .ok (.getfield 22, 3) := by decide +kernel
theorem dX6_digest_145 : decode cX6_digest 145 = .ok (.iload_n 3, 1) := by decide +kernel
theorem dX6_digest_146 : decode cX6_digest 146 = .ok (.iaload, 1) := by decide +kernel
theorem dX6_digest_147 : decode cX6_digest 147 = .ok (.i2l, 1) := by decide +kernel
theorem dX6_digest_148 : decode cX6_digest 148 = .ok (.ladd, 1) := by decide +kernel
theorem dX6_digest_149 : decode cX6_digest 149 = .ok (.lstore_n 1, 1) := by decide +kernel
theorem dX6_digest_150 : decode cX6_digest 150 = .ok (.ldc2_w 242, 3) := by decide +kernel
theorem dX6_digest_153 : decode cX6_digest 153 = .ok (.lload_n 1, 1) := by decide +kernel
theorem dX6_digest_154 : decode cX6_digest 154 = .ok (.lmul, 1) := by decide +kernel
theorem dX6_digest_155 : decode cX6_digest 155 = .ok (.aload_n 0, 1) := by decide +kernel
theorem dX6_digest_156 : decode cX6_digest 156 = .ok (.getfield 28, 3) := by decide +kernel
theorem dX6_digest_159 : decode cX6_digest 159 = .ok (.iload_n 3, 1) := by decide +kernel
theorem dX6_digest_160 : decode cX6_digest 160 = .ok (.iaload, 1) := by decide +kernel
theorem dX6_digest_161 : decode cX6_digest 161 = .ok (.i2l, 1) := by decide +kernel
theorem dX6_digest_162 : decode cX6_digest 162 = .ok (.ladd, 1) := by decide +kernel
theorem dX6_digest_163 : decode cX6_digest 163 = .ok (.lstore_n 1, 1) := by decide +kernel
theorem dX6_digest_164 : decode cX6_digest 164 = .ok (.ldc2_w 242, 3) := by decide +kernel
theorem dX6_digest_167 : decode cX6_digest 167 = .ok (.lload_n 1, 1) := by decide +kernel
theorem dX6_digest_168 : decode cX6_digest 168 = .ok (.lmul, 1) := by decide +kernel
theorem dX6_digest_169 : decode cX6_digest 169 = .ok (.aload_n 0, 1) := by decide +kernel
theorem dX6_digest_170 : decode cX6_digest 170 = .ok (.getfield 31, 3) := by decide +kernel
theorem dX6_digest_173 : decode cX6_digest 173 = .ok (.iload_n 3, 1) := by decide +kernel
theorem dX6_digest_174 : decode cX6_digest 174 = .ok (.iaload, 1) := by decide +kernel
theorem dX6_digest_175 : decode cX6_digest 175 = .ok (.i2l, 1) := by decide +kernel
theorem dX6_digest_176 : decode cX6_digest 176 = .ok (.ladd, 1) := by decide +kernel
theorem dX6_digest_177 : decode cX6_digest 177 = .ok (.lstore_n 1, 1) := by decide +kernel
theorem dX6_digest_178 : decode cX6_digest 178 = .ok (.iinc 3 1, 3) := by decide +kernel
theorem dX6_digest_181 : decode cX6_digest 181 = .ok (.goto (-106), 3) := by decide +kernel
theorem dX6_digest_184 : decode cX6_digest 184 = .ok (.iconst 0, 1) := by decide +kernel
theorem dX6_digest_185 : decode cX6_digest 185 = .ok (.istore_n 3, 1) := by decide +kernel
theorem dX6_digest_186 : decode cX6_digest 186 = .ok (.iload_n 3, 1) := by decide +kernel
theorem dX6_digest_187 : decode cX6_digest 187 = .ok (.aload_n 0, 1) := by decide +kernel
theorem dX6_digest_188 : decode cX6_digest 188 = .ok (.getfield 137, 3) := by decide +kernel
theorem dX6_digest_191 : decode cX6_digest 191 = .ok (.if_icmp .ge 40, 3) := by decide +kernel
theorem dX6_digest_194 : decode cX6_digest 194 = .ok (.iconst 0, 1) := by decide +kernel
theorem dX6_digest_195 : decode cX6_digest 195 = .ok (.istore 4, 2) := by decide +kernel
theorem dX6_digest_197 : decode cX6_digest 197 = .ok (.iload 4, 2) := by decide +kernel
theorem dX6_digest_199 : decode cX6_digest 199 = .ok (.bipush 7, 2) := by decide +kernel
theorem dX6_digest_201 : decode cX6_digest 201 = .ok (.if_icmp .ge 24, 3) := by decide +kernel
theorem dX6_digest_204 : decode cX6_digest 204 = .ok (.ldc2_w 242, 3) := by decide +kernel
theorem dX6_digest_207 : decode cX6_digest 207 = .ok (.lload_n 1, 1) := by decide +kernel
theorem dX6_digest_208 : decode cX6_digest 208 = .ok (.lmul, 1) := by decide +kernel
theorem dX6_digest_209 : decode cX6_digest 209 = .ok (.aload_n 0, 1) := by decide +kernel
theorem dX6_digest_210 : decode cX6_digest 210 = .ok (.iload_n 3, 1) := by decide +kernel
theorem dX6_digest_211 : decode cX6_digest 211 = .ok (.iload 4, 2) := by decide +kernel
theorem dX6_digest_213 : decode cX6_digest 213 = .ok (.invokevirtual 152, 3) := by decide +kernel
theorem dX6_digest_216 : decode cX6_digest 216 = .ok (.i2l, 1) := by decide +kernel
theorem dX6_digest_217 : decode cX6_digest 217 = .ok (.ladd, 1) := by decide +kernel
theorem dX6_digest_218 : decode cX6_digest 218 = .ok (.lstore_n 1, 1) := by decide +kernel
theorem dX6_digest_219 : decode cX6_digest 219 = .ok (.iinc 4 1, 3) := by decide +kernel
theorem dX6_digest_222 : decode cX6_digest 222 = .ok (.goto (-25), 3) := by decide +kernel
theorem dX6_digest_225 : decode cX6_digest 225 = .ok (.iinc 3 1, 3) := by decide +kernel
theorem dX6_digest_228 : decode cX6_digest 228 = .ok (.goto (-42), 3) := by decide +kernel
theorem dX6_digest_231 : decode cX6_digest 231 = .ok (.iconst 0, 1) := by decide +kernel
theorem dX6_digest_232 : decode cX6_digest 232 = .ok (.istore_n 3, 1) := by decide +kernel
theorem dX6_digest_233 : decode cX6_digest 233 = .ok (.iload_n 3, 1) := by decide +kernel
theorem dX6_digest_234 : decode cX6_digest 234 = .ok (.aload_n 0, 1) := by decide +kernel
theorem dX6_digest_235 : decode cX6_digest 235 = .ok (.getfield 162, 3) := by decide +kernel
theorem dX6_digest_238 : decode cX6_digest 238 = .ok (.if_icmp .ge 51, 3) := by decide +kernel
theorem dX6_digest_241 : decode cX6_digest 241 = .ok (.ldc2_w 242, 3) := by decide +kernel
theorem dX6_digest_244 : decode cX6_digest 244 = .ok (.lload_n 1, 1) := by decide +kernel
theorem dX6_digest_245 : decode cX6_digest 245 = .ok (.lmul, 1) := by decide +kernel
theorem dX6_digest_246 : decode cX6_digest 246 = .ok (.aload_n 0, 1) := by decide +kernel
theorem dX6_digest_247 : decode cX6_digest 247 = .ok (.getfield 62, 3) := by decide +kernel
theorem dX6_digest_250 : decode cX6_digest 250 = .ok (.iload_n 3, 1) := by decide +kernel
theorem dX6_digest_251 : decode cX6_digest 251 = .ok (.iaload, 1) := by decide +kernel
theorem dX6_digest_252 : decode cX6_digest 252 = .ok (.i2l, 1) := by decide +kernel
theorem dX6_digest_253 : decode cX6_digest 253 = .ok (.ladd, 1) := by decide +kernel
theorem dX6_digest_254 : decode cX6_digest 254 = .ok (.lstore_n 1, 1) := by decide +kernel
theorem dX6_digest_255 : decode cX6_digest 255 = .ok (.ldc2_w 242, 3) := by decide +kernel
theorem dX6_digest_258 : decode cX6_digest 258 = .ok (.lload_n 1, 1) := by decide +kernel
theorem dX6_digest_259 : decode cX6_digest 259 = .ok (.lmul, 1) := by decide +kernel
theorem dX6_digest_260 : decode cX6_digest 260 = .ok (.aload_n 0, 1) := by decide +kernel
theorem dX6_digest_261 : decode cX6_digest 261 = .ok (.getfield 65, 3) := by decide +kernel
theorem dX6_digest_264 : decode cX6_digest 264 = .ok (.iload_n 3, 1) := by decide +kernel
theorem dX6_digest_265 : decode cX6_digest 265 = .ok (.iaload, 1) := by decide +kernel
theorem dX6_digest_266 : decode cX6_digest 266 = .ok (.i2l, 1) := by decide +kernel
theorem dX6_digest_267 : decode cX6_digest 267 = .ok (.ladd, 1) := by decide +kernel
theorem dX6_digest_268 : decode cX6_digest 268 = .ok (.lstore_n 1, 1) := by decide +kernel
theorem dX6_digest_269 : decode cX6_digest 269 = .ok (.ldc2_w 242, 3) := by decide +kernel
theorem dX6_digest_272 : decode cX6_digest 272 = .ok (.lload_n 1, 1) := by decide +kernel
theorem dX6_digest_273 : decode cX6_digest 273 = .ok (.lmul, 1) := by decide +kernel
theorem dX6_digest_274 : decode cX6_digest 274 = .ok (.aload_n 0, 1) := by decide +kernel
theorem dX6_digest_275 : decode cX6_digest 275 = .ok (.getfield 68, 3) := by decide +kernel
theorem dX6_digest_278 : decode cX6_digest 278 = .ok (.iload_n 3, 1) := by decide +kernel
theorem dX6_digest_279 : decode cX6_digest 279 = .ok (.iaload, 1) := by decide +kernel
theorem dX6_digest_280 : decode cX6_digest 280 = .ok (.i2l, 1) := by decide +kernel
theorem dX6_digest_281 : decode cX6_digest 281 = .ok (.ladd, 1) := by decide +kernel
theorem dX6_digest_282 : decode cX6_digest 282 = .ok (.lstore_n 1, 1) := by decide +kernel
theorem dX6_digest_283 : decode cX6_digest 283 = .ok (.iinc 3 1, 3) := by decide +kernel
theorem dX6_digest_286 : decode cX6_digest 286 = .ok (.goto (-53), 3) := by decide +kernel
theorem dX6_digest_289 : decode cX6_digest 289 = .ok (.iconst 0, 1) := by decide +kernel
theorem dX6_digest_290 : decode cX6_digest 290 = .ok (.istore_n 3, 1) := by decide +kernel
theorem dX6_digest_291 : decode cX6_digest 291 = .ok (.iload_n 3, 1) := by decide +kernel
theorem dX6_digest_292 : decode cX6_digest 292 = .ok (.aload_n 0, 1) := by decide +kernel
theorem dX6_digest_293 : decode cX6_digest 293 = .ok (.getfield 212, 3) := by decide +kernel
theorem dX6_digest_296 : decode cX6_digest 296 = .ok (.if_icmp .ge 23, 3) := by decide +kernel
theorem dX6_digest_299 : decode cX6_digest 299 = .ok (.ldc2_w 242, 3) := by decide +kernel
theorem dX6_digest_302 : decode cX6_digest 302 = .ok (.lload_n 1, 1) := by decide +kernel
theorem dX6_digest_303 : decode cX6_digest 303 = .ok (.lmul, 1) := by decide +kernel
theorem dX6_digest_304 : decode cX6_digest 304 = .ok (.aload_n 0, 1) := by decide +kernel
theorem dX6_digest_305 : decode cX6_digest 305 = .ok (.getfield 75, 3) := by decide +kernel
theorem dX6_digest_308 : decode cX6_digest 308 = .ok (.iload_n 3, 1) := by decide +kernel
theorem dX6_digest_309 : decode cX6_digest 309 = .ok (.iaload, 1) := by decide +kernel
theorem dX6_digest_310 : decode cX6_digest 310 = .ok (.i2l, 1) := by decide +kernel
theorem dX6_digest_311 : decode cX6_digest 311 = .ok (.ladd, 1) := by decide +kernel
theorem dX6_digest_312 : decode cX6_digest 312 = .ok (.lstore_n 1, 1) := by decide +kernel
theorem dX6_digest_313 : decode cX6_digest 313 = .ok (.iinc 3 1, 3) := by decide +kernel
theorem dX6_digest_316 : decode cX6_digest 316 = .ok (.goto (-25), 3) := by decide +kernel
theorem dX6_digest_319 : decode cX6_digest 319 = .ok (.iconst 0, 1) := by decide +kernel
theorem dX6_digest_320 : decode cX6_digest 320 = .ok (.istore_n 3, 1) := by decide +kernel
theorem dX6_digest_321 : decode cX6_digest 321 = .ok (.iload_n 3, 1) := by decide +kernel
theorem dX6_digest_322 : decode cX6_digest 322 = .ok (.bipush 8, 2) := by decide +kernel
theorem dX6_digest_324 : decode cX6_digest 324 = .ok (.if_icmp .ge 42, 3) := by decide +kernel
theorem dX6_digest_327 : decode cX6_digest 327 = .ok (.ldc2_w 242, 3) := by decide +kernel
theorem dX6_digest_330 : decode cX6_digest 330 = .ok (.lload_n 1, 1) := by decide +kernel
theorem dX6_digest_331 : decode cX6_digest 331 = .ok (.lmul, 1) := by decide +kernel
theorem dX6_digest_332 : decode cX6_digest 332 = .ok (.aload_n 0, 1) := by decide +kernel
theorem dX6_digest_333 : decode cX6_digest 333 = .ok (.iload_n 3, 1) := by decide +kernel
theorem dX6_digest_334 : decode cX6_digest 334 = .ok (.invokevirtual 156, 3) := by decide +kernel
theorem dX6_digest_337 : decode cX6_digest 337 = .ok (.i2l, 1) := by decide +kernel
theorem dX6_digest_338 : decode cX6_digest 338 = .ok (.ladd, 1) := by decide +kernel
theorem dX6_digest_339 : decode cX6_digest 339 = .ok (.lstore_n 1, 1) := by decide +kernel
theorem dX6_digest_340 : decode cX6_digest 340 = .ok (.ldc2_w 242, 3) := by decide +kernel
theorem dX6_digest_343 : decode cX6_digest 343 = .ok (.lload_n 1, 1) := by decide +kernel
theorem dX6_digest_344 : decode cX6_digest 344 = .ok (.lmul, 1) := by decide +kernel
theorem dX6_digest_345 : decode cX6_digest 345 = .ok (.aload_n 0, 1) := by decide +kernel
theorem dX6_digest_346 : decode cX6_digest 346 = .ok (.iload_n 3, 1) := by decide +kernel
theorem dX6_digest_347 : decode cX6_digest 347 = .ok (.iconst 0, 1) := by decide +kernel
theorem dX6_digest_348 : decode cX6_digest 348 = .ok (.invokevirtual 227, 3) := by decide +kernel
theorem dX6_digest_351 : decode cX6_digest 351 = .ok (.aload_n 0, 1) := by decide +kernel
theorem dX6_digest_352 : decode cX6_digest 352 = .ok (.iload_n 3, 1) := by decide +kernel
theorem dX6_digest_353 : decode cX6_digest 353 = .ok (.invokevirtual 230, 3) := by decide +kernel
theorem dX6_digest_356 : decode cX6_digest 356 = .ok (.isub, 1) := by decide +kernel
theorem dX6_digest_357 : decode cX6_digest 357 = .ok (.i2l, 1) := by decide +kernel
