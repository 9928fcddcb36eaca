theorem dX6_sale_7 : decode cX6_sale 7 = .ok (.ldc2_w 150, 3) := by decide +kernel
theorem dX6_sale_10 : decode cX6_sale 10 = .ok (.invokestatic 92, 3) := by decide +kernel
theorem dX6_sale_13 : decode cX6_sale 13 = .ok (.ifCond .ne 8, 3) := by decide +kernel
theorem dX6_sale_16 : decode cX6_sale 16 = .ok (.bipush (-2), 2) := by decide +kernel
theorem dX6_sale_18 : decode cX6_sale 18 = .ok (.goto 21, 3) := by decide +kernel
theorem dX6_sale_21 : decode cX6_sale 21 = .ok (.iload_n 1, 1) := by decide +kernel
theorem dX6_sale_22 : decode cX6_sale 22 = .ok (.aload_n 0, 1) := by decide +kernel
theorem dX6_sale_23 : decode cX6_sale 23 = .ok (.getfield 137, 3) := by decide +kernel
theorem dX6_sale_26 : decode cX6_sale 26 = .ok (.if_icmp .lt 7, 3) := by decide +kernel
theorem dX6_sale_29 : decode cX6_sale 29 = .ok (.iconst (-1), 1) := by decide +kernel
theorem dX6_sale_30 : decode cX6_sale 30 = .ok (.goto 9, 3) := by decide +kernel
theorem dX6_sale_33 : decode cX6_sale 33 = .ok (.aload_n 0, 1) := by decide +kernel
theorem dX6_sale_34 : decode cX6_sale 34 = .ok (.iload_n 1, 1) := by decide +kernel
theorem dX6_sale_35 : decode cX6_sale 35 = .ok (.iload_n 2, 1) := by decide +kernel
theorem dX6_sale_36 : decode cX6_sale 36 = .ok (.invokevirtual 152, 3) := by decide +kernel
theorem dX6_sale_39 : decode cX6_sale 39 = .ok (.ireturn, 1) := by decide +kernel
theorem dX6_gainOf_0 : decode cX6_gainOf 0 = .ok (.iconst 0, 1) := by decide +kernel
theorem dX6_gainOf_1 : decode cX6_gainOf 1 = .ok (.istore_n 2, 1) := by decide +kernel
theorem dX6_gainOf_2 : decode cX6_gainOf 2 = .ok (.iconst 0, 1) := by decide +kernel
theorem dX6_gainOf_3 : decode cX6_gainOf 3 = .ok (.istore_n 3, 1) := by decide +kernel
theorem dX6_gainOf_4 : decode cX6_gainOf 4 = .ok (.iload_n 3, 1) := by decide +kernel
theorem dX6_gainOf_5 : decode cX6_gainOf 5 = .ok (.aload_n 0, 1) := by decide +kernel
theorem dX6_gainOf_6 : decode cX6_gainOf 6 = .ok (.getfield 137, 3) := by decide +kernel
theorem dX6_gainOf_9 : decode cX6_gainOf 9 = .ok (.if_icmp .ge 66, 3) := by decide +kernel
theorem dX6_gainOf_12 : decode cX6_gainOf 12 = .ok (.iload_n 2, 1) := by decide +kernel
theorem dX6_gainOf_13 : decode cX6_gainOf 13 = .ok (.aload_n 0, 1) := by decide +kernel
theorem dX6_gainOf_14 : decode cX6_gainOf 14 = .ok (.getfield 56, 3) := by decide +kernel
theorem dX6_gainOf_17 : decode cX6_gainOf 17 = .ok (.iload_n 3, 1) := by decide +kernel
theorem dX6_gainOf_18 : decode cX6_gainOf 18 = .ok (.iaload, 1) := by decide +kernel
theorem dX6_gainOf_19 : decode cX6_gainOf 19 = .ok (.ifCond .ne 7, 3) := by decide +kernel
theorem dX6_gainOf_22 : decode cX6_gainOf 22 = .ok (.iconst 0, 1) := by decide +kernel
theorem dX6_gainOf_23 : decode cX6_gainOf 23 = .ok (.goto 44, 3) := by decide +kernel
theorem dX6_gainOf_26 : decode cX6_gainOf 26 = .ok (.aload_n 0, 1) := by decide +kernel
theorem dX6_gainOf_27 : decode cX6_gainOf 27 = .ok (.getfield 41, 3) := by decide +kernel
theorem dX6_gainOf_30 : decode cX6_gainOf 30 = .ok (.iload_n 3, 1) := by decide +kernel
theorem dX6_gainOf_31 : decode cX6_gainOf 31 = .ok (.iaload, 1) := by decide +kernel
theorem dX6_gainOf_32 : decode cX6_gainOf 32 = .ok (.iload_n 1, 1) := by decide +kernel
theorem dX6_gainOf_33 : decode cX6_gainOf 33 = .ok (.if_icmp .ne 12, 3) := by decide +kernel
theorem dX6_gainOf_36 : decode cX6_gainOf 36 = .ok (.aload_n 0, 1) := by decide +kernel
theorem dX6_gainOf_37 : decode cX6_gainOf 37 = .ok (.getfield 47, 3) := by decide +kernel
theorem dX6_gainOf_40 : decode cX6_gainOf 40 = .ok (.iload_n 3, 1) := by decide +kernel
theorem dX6_gainOf_41 : decode cX6_gainOf 41 = .ok (.iaload, 1) := by decide +kernel
theorem dX6_gainOf_42 : decode cX6_gainOf 42 = .ok (.goto 25, 3) := by decide +kernel
theorem dX6_gainOf_45 : decode cX6_gainOf 45 = .ok (.aload_n 0, 1) := by decide +kernel
theorem dX6_gainOf_46 : decode cX6_gainOf 46 = .ok (.getfield 44, 3) := by decide +kernel
theorem dX6_gainOf_49 : decode cX6_gainOf 49 = .ok (.iload_n 3, 1) := by decide +kernel
theorem dX6_gainOf_50 : decode cX6_gainOf 50 = .ok (.iaload, 1) := by decide +kernel
theorem dX6_gainOf_51 : decode cX6_gainOf 51 = .ok (.iload_n 1, 1) := by decide +kernel
theorem dX6_gainOf_52 : decode cX6_gainOf 52 = .ok (.if_icmp .ne 14, 3) := by decide +kernel
theorem dX6_gainOf_55 : decode cX6_gainOf 55 = .ok (.iconst 0, 1) := by decide +kernel
theorem dX6_gainOf_56 : decode cX6_gainOf 56 = .ok (.aload_n 0, 1) := by decide +kernel
theorem dX6_gainOf_57 : decode cX6_gainOf 57 = .ok (.getfield 47, 3) := by decide +kernel
theorem dX6_gainOf_60 : decode cX6_gainOf 60 = .ok (.iload_n 3, 1) := by decide +kernel
theorem dX6_gainOf_61 : decode cX6_gainOf 61 = .ok (.iaload, 1) := by decide +kernel
theorem dX6_gainOf_62 : decode cX6_gainOf 62 = .ok (.isub, 1) := by decide +kernel
theorem dX6_gainOf_63 : decode cX6_gainOf 63 = .ok (.goto 4, 3) := by decide +kernel
theorem dX6_gainOf_66 : decode cX6_gainOf 66 = .ok (.iconst 0, 1) := by decide +kernel
theorem dX6_gainOf_67 : decode cX6_gainOf 67 = .ok (.iadd, 1) := by decide +kernel
theorem dX6_gainOf_68 : decode cX6_gainOf 68 = .ok (.istore_n 2, 1) := by decide +kernel
theorem dX6_gainOf_69 : decode cX6_gainOf 69 = .ok (.iinc 3 1, 3) := by decide +kernel
theorem dX6_gainOf_72 : decode cX6_gainOf 72 = .ok (.goto (-68), 3) := by decide +kernel
theorem dX6_gainOf_75 : decode cX6_gainOf 75 = .ok (.iload_n 2, 1) := by decide +kernel
theorem dX6_gainOf_76 : decode cX6_gainOf 76 = .ok (.ireturn, 1) := by decide +kernel
set_option maxRecDepth 20000 in
theorem ggX6_gain_X6_isDealer : GoodIn wsX6_gain wsX6_isDealer := goodIn_r _ [5, 6, 7, 8, 4, 9] (by decide +kernel) (by decide +kernel)
set_option maxRecDepth 20000 in
theorem gX6_gain_X6_isDealer : GoodIn wsX6_gain (va_wsS RX6 140 yX6_isDealer wsX6_isDealer) := goodIn_app (goodIn_of _ (by decide +kernel)) ggX6_gain_X6_isDealer
set_option maxRecDepth 20000 in
theorem ggX6_gain_X6_gainOf : GoodIn wsX6_gain wsX6_gainOf := goodIn_r _ [13, 14, 15, 16, 17, 18, 19, 20, 21, 22, 23, 24, 25, 26, 27, 28, 29, 30, 31, 32, 33, 34, 35, 36, 37, 38, 39, 40, 41, 42, 43, 44, 45, 46, 47, 48, 49, 50, 51, 52, 53, 54, 55, 56] (by decide +kernel) (by decide +kernel)
set_option maxRecDepth 20000 in
theorem gX6_gain_X6_gainOf : GoodIn wsX6_gain (wsV RX6 156 RX6 yX6_gainOf wsX6_gainOf) := goodIn_app (goodIn_of _ (by decide +kernel)) ggX6_gain_X6_gainOf
theorem dX6_gain_0 : decode cX6_gain 0 = .ok (.iload_n 1, 1) := by decide +kernel
theorem dX6_gain_1 : decode cX6_gain 1 = .ok (.invokestatic 140, 3) := by decide +kernel
theorem dX6_gain_4 : decode cX6_gain 4 = .ok (.ifCond .eq 11, 3) := by decide +kernel
theorem dX6_gain_7 : decode cX6_gain 7 = .ok (.aload_n 0, 1) := by decide +kernel
theorem dX6_gain_8 : decode cX6_gain 8 = .ok (.iload_n 1, 1) := by decide +kernel
theorem dX6_gain_9 : decode cX6_gain 9 = .ok (.invokevirtual 156, 3) := by decide +kernel
theorem dX6_gain_12 : decode cX6_gain 12 = .ok (.goto 5, 3) := by decide +kernel
theorem dX6_gain_15 : decode cX6_gain 15 = .ok (.ldc 159, 2) := by decide +kernel
theorem dX6_gain_17 : decode cX6_gain 17 = .ok (.ireturn, 1) := by decide +kernel
set_option maxRecDepth 20000 in
theorem ggX6_rose_X6_noThing : GoodIn wsX6_rose wsX6_noThing := goodIn_r _ [10, 11, 12, 13, 9, 14, 15, 16, 17, 18, 19, 20, 21, 22, 23, 24, 25, 26, 27, 28, 29, 30, 31, 32, 33, 34, 35, 36, 37, 38, 39, 40, 41, 42, 43, 44, 45, 46, 47, 48, 49, 50, 51, 52] (by decide +kernel) (by decide +kernel)
set_option maxRecDepth 20000 in
theorem gX6_rose_X6_noThing : GoodIn wsX6_rose (wsV RX6 107 RX6 yX6_noThing wsX6_noThing) := goodIn_app (goodIn_of _ (by decide +kernel)) ggX6_rose_X6_noThing
theorem dX6_rose_0 : decode cX6_rose 0 = .ok (.aload_n 0, 1) := by decide +kernel
theorem dX6_rose_1 : decode cX6_rose 1 = .ok (.iload_n 1, 1) := by decide +kernel
theorem dX6_rose_2 : decode cX6_rose 2 = .ok (.invokevirtual 107, 3) := by decide +kernel
theorem dX6_rose_5 : decode cX6_rose 5 = .ok (.ifCond .eq 6, 3) := by decide +kernel
theorem dX6_rose_8 : decode cX6_rose 8 = .ok (.ldc 159, 2) := by decide +kernel
theorem dX6_rose_10 : decode cX6_rose 10 = .ok (.ireturn, 1) := by decide +kernel
theorem dX6_rose_11 : decode cX6_rose 11 = .ok (.iconst (-1), 1) := by decide +kernel
theorem dX6_rose_12 : decode cX6_rose 12 = .ok (.istore_n 2, 1) := by decide +kernel
theorem dX6_rose_13 : decode cX6_rose 13 = .ok (.iconst (-1), 1) := by decide +kernel
theorem dX6_rose_14 : decode cX6_rose 14 = .ok (.istore_n 3, 1) := by decide +kernel
theorem dX6_rose_15 : decode cX6_rose 15 = .ok (.iconst 0, 1) := by decide +kernel
theorem dX6_rose_16 : decode cX6_rose 16 = .ok (.istore 4, 2) := by decide +kernel
theorem dX6_rose_18 : decode cX6_rose 18 = .ok (.iload 4, 2) := by decide +kernel
theorem dX6_rose_20 : decode cX6_rose 20 = .ok (.aload_n 0, 1) := by decide +kernel
theorem dX6_rose_21 : decode cX6_rose 21 = .ok (.getfield 137, 3) := by decide +kernel
theorem dX6_rose_24 : decode cX6_rose 24 = .ok (.if_icmp .ge 45, 3) := by decide +kernel
theorem dX6_rose_27 : decode cX6_rose 27 = .ok (.aload_n 0, 1) := by decide +kernel
theorem dX6_rose_28 : decode cX6_rose 28 = .ok (.getfield 56, 3) := by decide +kernel
theorem dX6_rose_31 : decode cX6_rose 31 = .ok (.iload 4, 2) := by decide +kernel
theorem dX6_rose_33 : decode cX6_rose 33 = .ok (.iaload, 1) := by decide +kernel
theorem dX6_rose_34 : decode cX6_rose 34 = .ok (.iconst 1, 1) := by decide +kernel
theorem dX6_rose_35 : decode cX6_rose 35 = .ok (.if_icmp .ne 28, 3) := by decide +kernel
theorem dX6_rose_38 : decode cX6_rose 38 = .ok (.aload_n 0, 1) := by decide +kernel
theorem dX6_rose_39 : decode cX6_rose 39 = .ok (.getfield 38, 3) := by decide +kernel
theorem dX6_rose_42 : decode cX6_rose 42 = .ok (.iload 4, 2) := by decide +kernel
theorem dX6_rose_44 : decode cX6_rose 44 = .ok (.iaload, 1) := by decide +kernel
theorem dX6_rose_45 : decode cX6_rose 45 = .ok (.iload_n 1, 1) := by decide +kernel
theorem dX6_rose_46 : decode cX6_rose 46 = .ok (.if_icmp .ne 17, 3) := by decide +kernel
theorem dX6_rose_49 : decode cX6_rose 49 = .ok (.iload_n 2, 1) := by decide +kernel
theorem dX6_rose_50 : decode cX6_rose 50 = .ok (.ifCond .ge 8, 3) := by decide +kernel
theorem dX6_rose_53 : decode cX6_rose 53 = .ok (.iload 4, 2) := by decide +kernel
theorem dX6_rose_55 : decode cX6_rose 55 = .ok (.goto 4, 3) := by decide +kernel
theorem dX6_rose_58 : decode cX6_rose 58 = .ok (.iload_n 2, 1) := by decide +kernel
theorem dX6_rose_59 : decode cX6_rose 59 = .ok (.istore_n 2, 1) := by decide +kernel
theorem dX6_rose_60 : decode cX6_rose 60 = .ok (.iload 4, 2) := by decide +kernel
theorem dX6_rose_62 : decode cX6_rose 62 = .ok (.istore_n 3, 1) := by decide +kernel
theorem dX6_rose_63 : decode cX6_rose 63 = .ok (.iinc 4 1, 3) := by decide +kernel
theorem dX6_rose_66 : decode cX6_rose 66 = .ok (.goto (-48), 3) := by decide +kernel
theorem dX6_rose_69 : decode cX6_rose 69 = .ok (.iload_n 2, 1) := by decide +kernel
theorem dX6_rose_70 : decode cX6_rose 70 = .ok (.ifCond .ge 7, 3) := by decide +kernel
theorem dX6_rose_73 : decode cX6_rose 73 = .ok (.iconst 0, 1) := by decide +kernel
theorem dX6_rose_74 : decode cX6_rose 74 = .ok (.goto 16, 3) := by decide +kernel
theorem dX6_rose_77 : decode cX6_rose 77 = .ok (.aload_n 0, 1) := by decide +kernel
theorem dX6_rose_78 : decode cX6_rose 78 = .ok (.getfield 47, 3) := by decide +kernel
theorem dX6_rose_81 : decode cX6_rose 81 = .ok (.iload_n 3, 1) := by decide +kernel
theorem dX6_rose_82 : decode cX6_rose 82 = .ok (.iaload, 1) := by decide +kernel
theorem dX6_rose_83 : decode cX6_rose 83 = .ok (.aload_n 0, 1) := by decide +kernel
theorem dX6_rose_84 : decode cX6_rose 84 = .ok (.getfield 47, 3) := by decide +kernel
theorem dX6_rose_87 : decode cX6_rose 87 = .ok (.iload_n 2, 1) := by decide +kernel
theorem dX6_rose_88 : decode cX6_rose 88 = .ok (.iaload, 1) := by decide +kernel
theorem dX6_rose_89 : decode cX6_rose 89 = .ok (.isub, 1) := by decide +kernel
theorem dX6_rose_90 : decode cX6_rose 90 = .ok (.ireturn, 1) := by decide +kernel
set_option maxRecDepth 20000 in
theorem ggX6_lot_X6_in : GoodIn wsX6_lot wsX6_in := goodIn_r _ [9] (by decide +kernel) (by decide +kernel)
set_option maxRecDepth 20000 in
theorem gX6_lot_X6_in : GoodIn wsX6_lot (va_wsS RX6 92 yX6_in wsX6_in) := goodIn_app (goodIn_of _ (by decide +kernel)) ggX6_lot_X6_in
set_option maxRecDepth 20000 in
theorem ggX6_lot_X6_isDealer : GoodIn wsX6_lot wsX6_isDealer := goodIn_r _ [12, 13, 6, 7, 8, 9] (by decide +kernel) (by decide +kernel)
set_option maxRecDepth 20000 in
theorem gX6_lot_X6_isDealer : GoodIn wsX6_lot (va_wsS RX6 140 yX6_isDealer wsX6_isDealer) := goodIn_app (goodIn_of _ (by decide +kernel)) ggX6_lot_X6_isDealer
theorem dX6_lot_0 : decode cX6_lot 0 = .ok (.iload_n 1, 1) := by decide +kernel
theorem dX6_lot_1 : decode cX6_lot 1 = .ok (.i2l, 1) := by decide +kernel
theorem dX6_lot_2 : decode cX6_lot 2 = .ok (.lconst 0, 1) := by decide +kernel
theorem dX6_lot_3 : decode cX6_lot 3 = .ok (.ldc2_w 160, 3) := by decide +kernel
theorem dX6_lot_6 : decode cX6_lot 6 = .ok (.invokestatic 92, 3) := by decide +kernel
theorem dX6_lot_9 : decode cX6_lot 9 = .ok (.ifCond .eq 23, 3) := by decide +kernel
theorem dX6_lot_12 : decode cX6_lot 12 = .ok (.iload_n 2, 1) := by decide +kernel
theorem dX6_lot_13 : decode cX6_lot 13 = .ok (.i2l, 1) := by decide +kernel
theorem dX6_lot_14 : decode cX6_lot 14 = .ok (.lconst 0, 1) := by decide +kernel
theorem dX6_lot_15 : decode cX6_lot 15 = .ok (.ldc2_w 160, 3) := by decide +kernel
theorem dX6_lot_18 : decode cX6_lot 18 = .ok (.invokestatic 92, 3) := by decide +kernel
theorem dX6_lot_21 : decode cX6_lot 21 = .ok (.ifCond .eq 11, 3) := by decide +kernel
theorem dX6_lot_24 : decode cX6_lot 24 = .ok (.iload_n 2, 1) := by decide +kernel
theorem dX6_lot_25 : decode cX6_lot 25 = .ok (.iload_n 1, 1) := by decide +kernel
theorem dX6_lot_26 : decode cX6_lot 26 = .ok (.iconst (-1), 1) := by decide +kernel
theorem dX6_lot_27 : decode cX6_lot 27 = .ok (.ixor, 1) := by decide +kernel
theorem dX6_lot_28 : decode cX6_lot 28 = .ok (.iand, 1) := by decide +kernel
theorem dX6_lot_29 : decode cX6_lot 29 = .ok (.ifCond .eq 6, 3) := by decide +kernel
theorem dX6_lot_32 : decode cX6_lot 32 = .ok (.bipush (-2), 2) := by decide +kernel
theorem dX6_lot_34 : decode cX6_lot 34 = .ok (.ireturn, 1) := by decide +kernel
theorem dX6_lot_35 : decode cX6_lot 35 = .ok (.iload_n 2, 1) := by decide +kernel
theorem dX6_lot_36 : decode cX6_lot 36 = .ok (.ifCond .ne 11, 3) := by decide +kernel
theorem dX6_lot_39 : decode cX6_lot 39 = .ok (.iload_n 3, 1) := by decide +kernel
theorem dX6_lot_40 : decode cX6_lot 40 = .ok (.iconst (-1), 1) := by decide +kernel
theorem dX6_lot_41 : decode cX6_lot 41 = .ok (.if_icmp .eq 24, 3) := by decide +kernel
theorem dX6_lot_44 : decode cX6_lot 44 = .ok (.goto 18, 3) := by decide +kernel
theorem dX6_lot_47 : decode cX6_lot 47 = .ok (.iload_n 3, 1) := by decide +kernel
theorem dX6_lot_48 : decode cX6_lot 48 = .ok (.invokestatic 140, 3) := by decide +kernel
theorem dX6_lot_51 : decode cX6_lot 51 = .ok (.ifCond .eq 11, 3) := by decide +kernel
theorem dX6_lot_54 : decode cX6_lot 54 = .ok (.iload_n 2, 1) := by decide +kernel
theorem dX6_lot_55 : decode cX6_lot 55 = .ok (.iload_n 3, 1) := by decide +kernel
theorem dX6_lot_56 : decode cX6_lot 56 = .ok (.ishr, 1) := by decide +kernel
theorem dX6_lot_57 : decode cX6_lot 57 = .ok (.iconst 1, 1) := by decide +kernel
theorem dX6_lot_58 : decode cX6_lot 58 = .ok (.iand, 1) := by decide +kernel
theorem dX6_lot_59 : decode cX6_lot 59 = .ok (.ifCond .ne 6, 3) := by decide +kernel
theorem dX6_lot_62 : decode cX6_lot 62 = .ok (.bipush (-2), 2) := by decide +kernel
theorem dX6_lot_64 : decode cX6_lot 64 = .ok (.ireturn, 1) := by decide +kernel
theorem dX6_lot_65 : decode cX6_lot 65 = .ok (.aload_n 0, 1) := by decide +kernel
theorem dX6_lot_66 : decode cX6_lot 66 = .ok (.getfield 162, 3) := by decide +kernel
theorem dX6_lot_69 : decode cX6_lot 69 = .ok (.bipush 40, 2) := by decide +kernel
theorem dX6_lot_71 : decode cX6_lot 71 = .ok (.if_icmp .ne 6, 3) := by decide +kernel
theorem dX6_lot_74 : decode cX6_lot 74 = .ok (.bipush (-4), 2) := by decide +kernel
theorem dX6_lot_76 : decode cX6_lot 76 = .ok (.ireturn, 1) := by decide +kernel
theorem dX6_lot_77 : decode cX6_lot 77 = .ok (.aload_n 0, 1) := by decide +kernel
theorem dX6_lot_78 : decode cX6_lot 78 = .ok (.getfield 62, 3) := by decide +kernel
theorem dX6_lot_81 : decode cX6_lot 81 = .ok (.aload_n 0, 1) := by decide +kernel
theorem dX6_lot_82 : decode cX6_lot 82 = .ok (.getfield 162, 3) := by decide +kernel
theorem dX6_lot_85 : decode cX6_lot 85 = .ok (.iload_n 1, 1) := by decide +kernel
theorem dX6_lot_86 : decode cX6_lot 86 = .ok (.iastore, 1) := by decide +kernel
theorem dX6_lot_87 : decode cX6_lot 87 = .ok (.aload_n 0, 1) := by decide +kernel
theorem dX6_lot_88 : decode cX6_lot 88 = .ok (.getfield 65, 3) := by decide +kernel
theorem dX6_lot_91 : decode cX6_lot 91 = .ok (.aload_n 0, 1) := by decide +kernel
theorem dX6_lot_92 : decode cX6_lot 92 = .ok (.getfield 162, 3) := by decide +kernel
theorem dX6_lot_95 : decode cX6_lot 95 = .ok (.iload_n 2, 1) := by decide +kernel
theorem dX6_lot_96 : decode cX6_lot 96 = .ok (.iastore, 1) := by decide +kernel
theorem dX6_lot_97 : decode cX6_lot 97 = .ok (.aload_n 0, 1) := by decide +kernel
theorem dX6_lot_98 : decode cX6_lot 98 = .ok (.getfield 68, 3) := by decide +kernel
theorem dX6_lot_101 : decode cX6_lot 101 = .ok (.aload_n 0, 1) := by decide +kernel
theorem dX6_lot_102 : decode cX6_lot 102 = .ok (.getfield 162, 3) := by decide +kernel
theorem dX6_lot_105 : decode cX6_lot 105 = .ok (.iload_n 3, 1) := by decide +kernel
theorem dX6_lot_106 : decode cX6_lot 106 = .ok (.iastore, 1) := by decide +kernel
theorem dX6_lot_107 : decode cX6_lot 107 = .ok (.aload_n 0, 1) := by decide +kernel
theorem dX6_lot_108 : decode cX6_lot 108 = .ok (.dup, 1) := by decide +kernel
theorem dX6_lot_109 : decode cX6_lot 109 = .ok (.getfield 162, 3) := by decide +kernel
theorem dX6_lot_112 : decode cX6_lot 112 = .ok (.iconst 1, 1) := by decide +kernel
theorem dX6_lot_113 : decode cX6_lot 113 = .ok (.iadd, 1) := by decide +kernel
theorem dX6_lot_114 : decode cX6_lot 114 = .ok (.putfield 162, 3) := by decide +kernel
theorem dX6_lot_117 : decode cX6_lot 117 = .ok (.aload_n 0, 1) := by decide +kernel
theorem dX6_lot_118 : decode cX6_lot 118 = .ok (.getfield 162, 3) := by decide +kernel
theorem dX6_lot_121 : decode cX6_lot 121 = .ok (.iconst 1, 1) := by decide +kernel
theorem dX6_lot_122 : decode cX6_lot 122 = .ok (.isub, 1) := by decide +kernel
theorem dX6_lot_123 : decode cX6_lot 123 = .ok (.ireturn, 1) := by decide +kernel
theorem dX6_findBoth_0 : decode cX6_findBoth 0 = .ok (.aload_n 0, 1) := by decide +kernel
theorem dX6_findBoth_1 : decode cX6_findBoth 1 = .ok (.iconst 0, 1) := by decide +kernel
theorem dX6_findBoth_2 : decode cX6_findBoth 2 = .ok (.putfield 165, 3) := by decide +kernel
theorem dX6_findBoth_5 : decode cX6_findBoth 5 = .ok (.aload_n 0, 1) := by decide +kernel
theorem dX6_findBoth_6 : decode cX6_findBoth 6 = .ok (.iconst 0, 1) := by decide +kernel
theorem dX6_findBoth_7 : decode cX6_findBoth 7 = .ok (.putfield 168, 3) := by decide +kernel
theorem dX6_findBoth_10 : decode cX6_findBoth 10 = .ok (.aload_n 0, 1) := by decide +kernel
theorem dX6_findBoth_11 : decode cX6_findBoth 11 = .ok (.iconst 0, 1) := by decide +kernel
theorem dX6_findBoth_12 : decode cX6_findBoth 12 = .ok (.putfield 171, 3) := by decide +kernel
theorem dX6_findBoth_15 : decode cX6_findBoth 15 = .ok (.aload_n 0, 1) := by decide +kernel
theorem dX6_findBoth_16 : decode cX6_findBoth 16 = .ok (.iconst 0, 1) := by decide +kernel
theorem dX6_findBoth_17 : decode cX6_findBoth 17 = .ok (.putfield 174, 3) := by decide +kernel
theorem dX6_findBoth_20 : decode cX6_findBoth 20 = .ok (.iconst 0, 1) := by decide +kernel
theorem dX6_findBoth_21 : decode cX6_findBoth 21 = .ok (.istore_n 3, 1) := by decide +kernel
theorem dX6_findBoth_22 : decode cX6_findBoth 22 = .ok (.iload_n 3, 1) := by decide +kernel
theorem dX6_findBoth_23 : decode cX6_findBoth 23 = .ok (.aload_n 0, 1) := by decide +kernel
theorem dX6_findBoth_24 : decode cX6_findBoth 24 = .ok (.getfield 162, 3) := by decide +kernel
theorem dX6_findBoth_27 : decode cX6_findBoth 27 = .ok (.if_icmp .ge 113, 3) := by decide +kernel
theorem dX6_findBoth_30 : decode cX6_findBoth 30 = .ok (.aload_n 0, 1) := by decide +kernel
theorem dX6_findBoth_31 : decode cX6_findBoth 31 = .ok (.getfield 62, 3) := by decide +kernel
theorem dX6_findBoth_34 : decode cX6_findBoth 34 = .ok (.iload_n 3, 1) := by decide +kernel
theorem dX6_findBoth_35 : decode cX6_findBoth 35 = .ok (.iaload, 1) := by decide +kernel
theorem dX6_findBoth_36 : decode cX6_findBoth 36 = .ok (.iload_n 1, 1) := by decide +kernel
theorem dX6_findBoth_37 : decode cX6_findBoth 37 = .ok (.ishr, 1) := by decide +kernel
theorem dX6_findBoth_38 : decode cX6_findBoth 38 = .ok (.iconst 1, 1) := by decide +kernel
theorem dX6_findBoth_39 : decode cX6_findBoth 39 = .ok (.iand, 1) := by decide +kernel
theorem dX6_findBoth_40 : decode cX6_findBoth 40 = .ok (.iconst 1, 1) := by decide +kernel
theorem dX6_findBoth_41 : decode cX6_findBoth 41 = .ok (.if_icmp .ne 93, 3) := by decide +kernel
theorem dX6_findBoth_44 : decode cX6_findBoth 44 = .ok (.aload_n 0, 1) := by decide +kernel
theorem dX6_findBoth_45 : decode cX6_findBoth 45 = .ok (.getfield 62, 3) := by decide +kernel
theorem dX6_findBoth_48 : decode cX6_findBoth 48 = .ok (.iload_n 3, 1) := by decide +kernel
theorem dX6_findBoth_49 : decode cX6_findBoth 49 = .ok (.iaload, 1) := by decide +kernel
theorem dX6_findBoth_50 : decode cX6_findBoth 50 = .ok (.iload_n 2, 1) := by decide +kernel
theorem dX6_findBoth_51 : decode cX6_findBoth 51 = .ok (.ishr, 1) := by decide +kernel
theorem dX6_findBoth_52 : decode cX6_findBoth 52 = .ok (.iconst 1, 1) := by decide +kernel
theorem dX6_findBoth_53 : decode cX6_findBoth 53 = .ok (.iand, 1) := by decide +kernel
theorem dX6_findBoth_54 : decode cX6_findBoth 54 = .ok (.iconst 1, 1) := by decide +kernel
theorem dX6_findBoth_55 : decode cX6_findBoth 55 = .ok (.if_icmp .ne 79, 3) := by decide +kernel
theorem dX6_findBoth_58 : decode cX6_findBoth 58 = .ok (.aload_n 0, 1) := by decide +kernel
theorem dX6_findBoth_59 : decode cX6_findBoth 59 = .ok (.dup, 1) := by decide +kernel
theorem dX6_findBoth_60 : decode cX6_findBoth 60 = .ok (.getfield 165, 3) := by decide +kernel
theorem dX6_findBoth_63 : decode cX6_findBoth 63 = .ok (.iconst 1, 1) := by decide +kernel
theorem dX6_findBoth_64 : decode cX6_findBoth 64 = .ok (.iadd, 1) := by decide +kernel
theorem dX6_findBoth_65 : decode cX6_findBoth 65 = .ok (.putfield 165, 3) := by decide +kernel
theorem dX6_findBoth_68 : decode cX6_findBoth 68 = .ok (.aload_n 0, 1) := by decide +kernel
theorem dX6_findBoth_69 : decode cX6_findBoth 69 = .ok (.dup, 1) := by decide +kernel
theorem dX6_findBoth_70 : decode cX6_findBoth 70 = .ok (.getfield 168, 3) := by decide +kernel
theorem dX6_findBoth_73 : decode cX6_findBoth 73 = .ok (.aload_n 0, 1) := by decide +kernel
theorem dX6_findBoth_74 : decode cX6_findBoth 74 = .ok (.getfield 65, 3) := by decide +kernel
theorem dX6_findBoth_77 : decode cX6_findBoth 77 = .ok (.iload_n 3, 1) := by decide +kernel
theorem dX6_findBoth_78 : decode cX6_findBoth 78 = .ok (.iaload, 1) := by decide +kernel
theorem dX6_findBoth_79 : decode cX6_findBoth 79 = .ok (.iload_n 1, 1) := by decide +kernel
theorem dX6_findBoth_80 : decode cX6_findBoth 80 = .ok (.ishr, 1) := by decide +kernel
theorem dX6_findBoth_81 : decode cX6_findBoth 81 = .ok (.iconst 1, 1) := by decide +kernel
theorem dX6_findBoth_82 : decode cX6_findBoth 82 = .ok (.iand, 1) := by decide +kernel
theorem dX6_findBoth_83 : decode cX6_findBoth 83 = .ok (.iadd, 1) := by decide +kernel
theorem dX6_findBoth_84 : decode cX6_findBoth 84 = .ok (.putfield 168, 3) := by decide +kernel
theorem dX6_findBoth_87 : decode cX6_findBoth 87 = .ok (.aload_n 0, 1) := by decide +kernel
theorem dX6_findBoth_88 : decode cX6_findBoth 88 = .ok (.dup, 1) := by decide +kernel
theorem dX6_findBoth_89 : decode cX6_findBoth 89 = .ok (.getfield 171, 3) := by decide +kernel
theorem dX6_findBoth_92 : decode cX6_findBoth 92 = .ok (.aload_n 0, 1) := by decide +kernel
theorem dX6_findBoth_93 : decode cX6_findBoth 93 = .ok (.getfield 65, 3) := by decide +kernel
theorem dX6_findBoth_96 : decode cX6_findBoth 96 = .ok (.iload_n 3, 1) := by decide +kernel
theorem dX6_findBoth_97 : decode cX6_findBoth 97 = .ok (.iaload, 1) := by decide +kernel
theorem dX6_findBoth_98 : decode cX6_findBoth 98 = .ok (.iload_n 2, 1) := by decide +kernel
theorem dX6_findBoth_99 : decode cX6_findBoth 99 = .ok (.ishr, 1) := by decide +kernel
theorem dX6_findBoth_100 : decode cX6_findBoth 100 = .ok (.iconst 1, 1) := by decide +kernel
theorem dX6_findBoth_101 : decode cX6_findBoth 101 = .ok (.iand, 1) := by decide +kernel
theorem dX6_findBoth_102 : decode cX6_findBoth 102 = .ok (.iadd, 1) := by decide +kernel
theorem dX6_findBoth_103 : decode cX6_findBoth 103 = .ok (.putfield 171, 3) := by decide +kernel
theorem dX6_findBoth_106 : decode cX6_findBoth 106 = .ok (.aload_n 0, 1) := by decide +kernel
theorem dX6_findBoth_107 : decode cX6_findBoth 107 = .ok (.dup, 1) := by decide +kernel
theorem dX6_findBoth_108 : decode cX6_findBoth 108 = .ok (.getfield 174, 3) := by decide +kernel
theorem dX6_findBoth_111 : decode cX6_findBoth 111 = .ok (.aload_n 0, 1) := by decide +kernel
theorem dX6_findBoth_112 : decode cX6_findBoth 112 = .ok (.getfield 65, 3) := by decide +kernel
theorem dX6_findBoth_115 : decode cX6_findBoth 115 = .ok (.iload_n 3, 1) := by decide +kernel
theorem dX6_findBoth_116 : decode cX6_findBoth 116 = .ok (.iaload, 1) := by decide +kernel
theorem dX6_findBoth_117 : decode cX6_findBoth 117 = .ok (.iload_n 1, 1) := by decide +kernel
theorem dX6_findBoth_118 : decode cX6_findBoth 118 = .ok (.ishr, 1) := by decide +kernel
theorem dX6_findBoth_119 : decode cX6_findBoth 119 = .ok (.aload_n 0, 1) := by decide +kernel
theorem dX6_findBoth_120 : decode cX6_findBoth 120 = .ok (.getfield 65, 3) := by decide +kernel
theorem dX6_findBoth_123 : decode cX6_findBoth 123 = .ok (.iload_n 3, 1) := by decide +kernel
theorem dX6_findBoth_124 : decode cX6_findBoth 124 = .ok (.iaload, 1) := by decide +kernel
theorem dX6_findBoth_125 : decode cX6_findBoth 125 = .ok (.iload_n 2, 1) := by decide +kernel
theorem dX6_findBoth_126 : decode cX6_findBoth 126 = .ok (.ishr, 1) := by decide +kernel
theorem dX6_findBoth_127 : decode cX6_findBoth 127 = .ok (.iand, 1) := by decide +kernel
theorem dX6_findBoth_128 : decode cX6_findBoth 128 = .ok (.iconst 1, 1) := by decide +kernel
theorem dX6_findBoth_129 : decode cX6_findBoth 129 = .ok (.iand, 1) := by decide +kernel
theorem dX6_findBoth_130 : decode cX6_findBoth 130 = .ok (.iadd, 1) := by decide +kernel
theorem dX6_findBoth_131 : decode cX6_findBoth 131 = .ok (.putfield 174, 3) := by decide +kernel
theorem dX6_findBoth_134 : decode cX6_findBoth 134 = .ok (.iinc 3 1, 3) := by decide +kernel
theorem dX6_findBoth_137 : decode cX6_findBoth 137 = .ok (.goto (-115), 3) := by decide +kernel
theorem dX6_findBoth_140 : decode cX6_findBoth 140 = .ok (.return_, 1) := by decide +kernel
set_option maxRecDepth 20000 in
theorem ggX6_isPair_X6_isDealer : GoodIn wsX6_isPair wsX6_isDealer := goodIn_r _ [4, 5, 6, 7, 3, 8] (by decide +kernel) (by decide +kernel)
set_option maxRecDepth 20000 in
theorem gX6_isPair_X6_isDealer : GoodIn wsX6_isPair (va_wsS RX6 140 yX6_isDealer wsX6_isDealer) := goodIn_app (goodIn_of _ (by decide +kernel)) ggX6_isPair_X6_isDealer
theorem dX6_isPair_0 : decode cX6_isPair 0 = .ok (.iload_n 0, 1) := by decide +kernel
theorem dX6_isPair_1 : decode cX6_isPair 1 = .ok (.invokestatic 140, 3) := by decide +kernel
theorem dX6_isPair_4 : decode cX6_isPair 4 = .ok (.ifCond .eq 19, 3) := by decide +kernel
theorem dX6_isPair_7 : decode cX6_isPair 7 = .ok (.iload_n 1, 1) := by decide +kernel
theorem dX6_isPair_8 : decode cX6_isPair 8 = .ok (.invokestatic 140, 3) := by decide +kernel
theorem dX6_isPair_11 : decode cX6_isPair 11 = .ok (.ifCond .eq 12, 3) := by decide +kernel
theorem dX6_isPair_14 : decode cX6_isPair 14 = .ok (.iload_n 0, 1) := by decide +kernel
theorem dX6_isPair_15 : decode cX6_isPair 15 = .ok (.iload_n 1, 1) := by decide +kernel
theorem dX6_isPair_16 : decode cX6_isPair 16 = .ok (.if_icmp .eq 7, 3) := by decide +kernel
theorem dX6_isPair_19 : decode cX6_isPair 19 = .ok (.iconst 1, 1) := by decide +kernel
theorem dX6_isPair_20 : decode cX6_isPair 20 = .ok (.goto 4, 3) := by decide +kernel
theorem dX6_isPair_23 : decode cX6_isPair 23 = .ok (.iconst 0, 1) := by decide +kernel
theorem dX6_isPair_24 : decode cX6_isPair 24 = .ok (.ireturn, 1) := by decide +kernel
set_option maxRecDepth 20000 in
theorem ggX6_both_X6_isPair : GoodIn wsX6_both wsX6_isPair := goodIn_r _ [9, 10, 11, 8, 12, 13, 14, 15, 16] (by decide +kernel) (by decide +kernel)
set_option maxRecDepth 20000 in
theorem gX6_both_X6_isPair : GoodIn wsX6_both (va_wsS RX6 177 yX6_isPair wsX6_isPair) := goodIn_app (goodIn_of _ (by decide +kernel)) ggX6_both_X6_isPair
set_option maxRecDepth 20000 in
theorem ggX6_both_X6_in : GoodIn wsX6_both wsX6_in := goodIn_r _ [16] (by decide +kernel) (by decide +kernel)
set_option maxRecDepth 20000 in
theorem gX6_both_X6_in : GoodIn wsX6_both (va_wsS RX6 92 yX6_in wsX6_in) := goodIn_app (goodIn_of _ (by decide +kernel)) ggX6_both_X6_in
set_option maxRecDepth 20000 in
theorem ggX6_both_X6_findBoth : GoodIn wsX6_both wsX6_findBoth := goodIn_r _ [20, 2, 3, 4, 5, 21, 22, 23, 24, 25, 26, 27, 28, 29, 30, 31, 32, 33, 34, 35, 36, 37, 38, 39, 40, 41, 42, 43, 44, 45, 46, 47, 48, 49, 50, 51, 52, 53, 54, 55, 56, 57, 58, 59, 60, 61] (by decide +kernel) (by decide +kernel)
set_option maxRecDepth 20000 in
theorem gX6_both_X6_findBoth : GoodIn wsX6_both (wsV RX6 183 RX6 yX6_findBoth wsX6_findBoth) := goodIn_app (goodIn_of _ (by decide +kernel)) ggX6_both_X6_findBoth
theorem dX6_both_0 : decode cX6_both 0 = .ok (.iload_n 1, 1) := by decide +kernel
theorem dX6_both_1 : decode cX6_both 1 = .ok (.iload_n 2, 1) := by decide +kernel
theorem dX6_both_2 : decode cX6_both 2 = .ok (.invokestatic 177, 3) := by decide +kernel
theorem dX6_both_5 : decode cX6_both 5 = .ok (.ifCond .eq 15, 3) := by decide +kernel
theorem dX6_both_8 : decode cX6_both 8 = .ok (.iload_n 3, 1) := by decide +kernel
theorem dX6_both_9 : decode cX6_both 9 = .ok (.i2l, 1) := by decide +kernel
theorem dX6_both_10 : decode cX6_both 10 = .ok (.lconst 0, 1) := by decide +kernel
theorem dX6_both_11 : decode cX6_both 11 = .ok (.ldc2_w 181, 3) := by decide +kernel
theorem dX6_both_14 : decode cX6_both 14 = .ok (.invokestatic 92, 3) := by decide +kernel
theorem dX6_both_17 : decode cX6_both 17 = .ok (.ifCond .ne 6, 3) := by decide +kernel
theorem dX6_both_20 : decode cX6_both 20 = .ok (.bipush (-2), 2) := by decide +kernel
theorem dX6_both_22 : decode cX6_both 22 = .ok (.ireturn, 1) := by decide +kernel
theorem dX6_both_23 : decode cX6_both 23 = .ok (.aload_n 0, 1) := by decide +kernel
theorem dX6_both_24 : decode cX6_both 24 = .ok (.iload_n 1, 1) := by decide +kernel
theorem dX6_both_25 : decode cX6_both 25 = .ok (.iload_n 2, 1) := by decide +kernel
theorem dX6_both_26 : decode cX6_both 26 = .ok (.invokevirtual 183, 3) := by decide +kernel
theorem dX6_both_29 : decode cX6_both 29 = .ok (.iload_n 3, 1) := by decide +kernel
theorem dX6_both_30 : decode cX6_both 30 = .ok (.ifCond .ne 10, 3) := by decide +kernel
theorem dX6_both_33 : decode cX6_both 33 = .ok (.aload_n 0, 1) := by decide +kernel
theorem dX6_both_34 : decode cX6_both 34 = .ok (.getfield 165, 3) := by decide +kernel
theorem dX6_both_37 : decode cX6_both 37 = .ok (.goto 31, 3) := by decide +kernel
theorem dX6_both_40 : decode cX6_both 40 = .ok (.iload_n 3, 1) := by decide +kernel
theorem dX6_both_41 : decode cX6_both 41 = .ok (.iconst 1, 1) := by decide +kernel
theorem dX6_both_42 : decode cX6_both 42 = .ok (.if_icmp .ne 10, 3) := by decide +kernel
theorem dX6_both_45 : decode cX6_both 45 = .ok (.aload_n 0, 1) := by decide +kernel
theorem dX6_both_46 : decode cX6_both 46 = .ok (.getfield 168, 3) := by decide +kernel
theorem dX6_both_49 : decode cX6_both 49 = .ok (.goto 19, 3) := by decide +kernel
theorem dX6_both_52 : decode cX6_both 52 = .ok (.iload_n 3, 1) := by decide +kernel
theorem dX6_both_53 : decode cX6_both 53 = .ok (.iconst 2, 1) := by decide +kernel
theorem dX6_both_54 : decode cX6_both 54 = .ok (.if_icmp .ne 10, 3) := by decide +kernel
theorem dX6_both_57 : decode cX6_both 57 = .ok (.aload_n 0, 1) := by decide +kernel
theorem dX6_both_58 : decode cX6_both 58 = .ok (.getfield 171, 3) := by decide +kernel
theorem dX6_both_61 : decode cX6_both 61 = .ok (.goto 7, 3) := by decide +kernel
theorem dX6_both_64 : decode cX6_both 64 = .ok (.aload_n 0, 1) := by decide +kernel
theorem dX6_both_65 : decode cX6_both 65 = .ok (.getfield 174, 3) := by decide +kernel
theorem dX6_both_68 : decode cX6_both 68 = .ok (.ireturn, 1) := by decide +kernel
set_option maxRecDepth 20000 in
theorem ggX6_choose_X6_in : GoodIn wsX6_choose wsX6_in := goodIn_r _ [5] (by decide +kernel) (by decide +kernel)
set_option maxRecDepth 20000 in
theorem gX6_choose_X6_in : GoodIn wsX6_choose (va_wsS RX6 92 yX6_in wsX6_in) := goodIn_app (goodIn_of _ (by decide +kernel)) ggX6_choose_X6_in
theorem dX6_choose_0 : decode cX6_choose 0 = .ok (.iload_n 2, 1) := by decide +kernel
theorem dX6_choose_1 : decode cX6_choose 1 = .ok (.i2l, 1) := by decide +kernel
theorem dX6_choose_2 : decode cX6_choose 2 = .ok (.lconst 0, 1) := by decide +kernel
theorem dX6_choose_3 : decode cX6_choose 3 = .ok (.iload_n 1, 1) := by decide +kernel
theorem dX6_choose_4 : decode cX6_choose 4 = .ok (.i2l, 1) := by decide +kernel
theorem dX6_choose_5 : decode cX6_choose 5 = .ok (.invokestatic 92, 3) := by decide +kernel
theorem dX6_choose_8 : decode cX6_choose 8 = .ok (.ifCond .eq 17, 3) := by decide +kernel
theorem dX6_choose_11 : decode cX6_choose 11 = .ok (.aload_n 0, 1) := by decide +kernel
theorem dX6_choose_12 : decode cX6_choose 12 = .ok (.getfield 71, 3) := by decide +kernel
theorem dX6_choose_15 : decode cX6_choose 15 = .ok (.bipush 41, 2) := by decide +kernel
theorem dX6_choose_17 : decode cX6_choose 17 = .ok (.iload_n 1, 1) := by decide +kernel
theorem dX6_choose_18 : decode cX6_choose 18 = .ok (.imul, 1) := by decide +kernel
theorem dX6_choose_19 : decode cX6_choose 19 = .ok (.iload_n 2, 1) := by decide +kernel
theorem dX6_choose_20 : decode cX6_choose 20 = .ok (.iadd, 1) := by decide +kernel
theorem dX6_choose_21 : decode cX6_choose 21 = .ok (.laload, 1) := by decide +kernel
theorem dX6_choose_22 : decode cX6_choose 22 = .ok (.goto 4, 3) := by decide +kernel
theorem dX6_choose_25 : decode cX6_choose 25 = .ok (.lconst 0, 1) := by decide +kernel
theorem dX6_choose_26 : decode cX6_choose 26 = .ok (.lreturn, 1) := by decide +kernel
theorem dX6_gcd_0 : decode cX6_gcd 0 = .ok (.lload_n 0, 1) := by decide +kernel
theorem dX6_gcd_1 : decode cX6_gcd 1 = .ok (.lstore 4, 2) := by decide +kernel
theorem dX6_gcd_3 : decode cX6_gcd 3 = .ok (.lload_n 2, 1) := by decide +kernel
theorem dX6_gcd_4 : decode cX6_gcd 4 = .ok (.lstore 6, 2) := by decide +kernel
theorem dX6_gcd_6 : decode cX6_gcd 6 = .ok (.lload 6, 2) := by decide +kernel
theorem dX6_gcd_8 : decode cX6_gcd 8 = .ok (.lconst 0, 1) := by decide +kernel
theorem dX6_gcd_9 : decode cX6_gcd 9 = .ok (.lcmp, 1) := by decide +kernel
theorem dX6_gcd_10 : decode cX6_gcd 10 = .ok (.ifCond .eq 21, 3) := by decide +kernel
theorem dX6_gcd_13 : decode cX6_gcd 13 = .ok (.lload 4, 2) := by decide +kernel
theorem dX6_gcd_15 : decode cX6_gcd 15 = .ok (.lload 6, 2) := by decide +kernel
theorem dX6_gcd_17 : decode cX6_gcd 17 = .ok (.lrem, 1) := by decide +kernel
theorem dX6_gcd_18 : decode cX6_gcd 18 = .ok (.lstore 8, 2) := by decide +kernel
theorem dX6_gcd_20 : decode cX6_gcd 20 = .ok (.lload 6, 2) := by decide +kernel
theorem dX6_gcd_22 : decode cX6_gcd 22 = .ok (.lstore 4, 2) := by decide +kernel
theorem dX6_gcd_24 : decode cX6_gcd 24 = .ok (.lload 8, 2) := by decide +kernel
theorem dX6_gcd_26 : decode cX6_gcd 26 = .ok (.lstore 6, 2) := by decide +kernel
theorem dX6_gcd_28 : decode cX6_gcd 28 = .ok (.goto (-22), 3) := by decide +kernel
theorem dX6_gcd_31 : decode cX6_gcd 31 = .ok (.lload 4, 2) := by decide +kernel
theorem dX6_gcd_33 : decode cX6_gcd 33 = .ok (.lreturn, 1) := by decide +kernel
set_option maxRecDepth 20000 in
theorem ggX6_findChance_X6_findBoth : GoodIn wsX6_findChance wsX6_findBoth := goodIn_r _ [11, 4, 3, 5, 2, 12, 13, 14, 26, 27, 28, 29, 30, 31, 32, 33, 34, 35, 36, 37, 38, 39, 40, 41, 42, 43, 44, 45, 46, 47, 48, 49, 50, 51, 52, 53, 54, 55, 56, 57, 58, 59, 60, 61, 62, 63] (by decide +kernel) (by decide +kernel)
set_option maxRecDepth 20000 in
theorem gX6_findChance_X6_findBoth : GoodIn wsX6_findChance (wsV RX6 183 RX6 yX6_findBoth wsX6_findBoth) := goodIn_app (goodIn_of _ (by decide +kernel)) ggX6_findChance_X6_findBoth
set_option maxRecDepth 20000 in
theorem ggX6_findChance_X6_choose : GoodIn wsX6_findChance wsX6_choose := goodIn_r _ [18, 19, 20, 21, 10, 22, 26, 27, 28, 29, 30, 31, 32, 33, 34, 35, 36, 37, 38, 39, 40, 41, 42, 43, 44, 45, 46, 47, 48, 49, 50, 51, 52, 53, 54, 55, 56, 57, 58, 59, 60, 61, 62, 63] (by decide +kernel) (by decide +kernel)
set_option maxRecDepth 20000 in
theorem gX6_findChance_X6_choose : GoodIn wsX6_findChance (wsV RX6 190 RX6 yX6_choose wsX6_choose) := goodIn_app (goodIn_of _ (by decide +kernel)) ggX6_findChance_X6_choose
set_option maxRecDepth 20000 in
theorem ggX6_findChance_X6_gcd : GoodIn wsX6_findChance wsX6_gcd := goodIn_r _ [25] (by decide +kernel) (by decide +kernel)
set_option maxRecDepth 20000 in
theorem gX6_findChance_X6_gcd : GoodIn wsX6_findChance (va_wsS RX6 197 yX6_gcd wsX6_gcd) := goodIn_app (goodIn_of _ (by decide +kernel)) ggX6_findChance_X6_gcd
theorem dX6_findChance_0 : decode cX6_findChance 0 = .ok (.aload_n 0, 1) := by decide +kernel
theorem dX6_findChance_1 : decode cX6_findChance 1 = .ok (.iload_n 1, 1) := by decide +kernel
theorem dX6_findChance_2 : decode cX6_findChance 2 = .ok (.iload_n 2, 1) := by decide +kernel
theorem dX6_findChance_3 : decode cX6_findChance 3 = .ok (.invokevirtual 183, 3) := by decide +kernel
theorem dX6_findChance_6 : decode cX6_findChance 6 = .ok (.aload_n 0, 1) := by decide +kernel
theorem dX6_findChance_7 : decode cX6_findChance 7 = .ok (.lconst 0, 1) := by decide +kernel
theorem dX6_findChance_8 : decode cX6_findChance 8 = .ok (.putfield 186, 3) := by decide +kernel
theorem dX6_findChance_11 : decode cX6_findChance 11 = .ok (.iconst 0, 1) := by decide +kernel
theorem dX6_findChance_12 : decode cX6_findChance 12 = .ok (.istore_n 3, 1) := by decide +kernel
theorem dX6_findChance_13 : decode cX6_findChance 13 = .ok (.iload_n 3, 1) := by decide +kernel
theorem dX6_findChance_14 : decode cX6_findChance 14 = .ok (.aload_n 0, 1) := by decide +kernel
theorem dX6_findChance_15 : decode cX6_findChance 15 = .ok (.getfield 174, 3) := by decide +kernel
theorem dX6_findChance_18 : decode cX6_findChance 18 = .ok (.if_icmp .gt 47, 3) := by decide +kernel
theorem dX6_findChance_21 : decode cX6_findChance 21 = .ok (.aload_n 0, 1) := by decide +kernel
theorem dX6_findChance_22 : decode cX6_findChance 22 = .ok (.dup, 1) := by decide +kernel
theorem dX6_findChance_23 : decode cX6_findChance 23 = .ok (.getfield 186, 3) := by decide +kernel
theorem dX6_findChance_26 : decode cX6_findChance 26 = .ok (.aload_n 0, 1) := by decide +kernel
theorem dX6_findChance_27 : decode cX6_findChance 27 = .ok (.aload_n 0, 1) := by decide +kernel
theorem dX6_findChance_28 : decode cX6_findChance 28 = .ok (.getfield 168, 3) := by decide +kernel
theorem dX6_findChance_31 : decode cX6_findChance 31 = .ok (.iload_n 3, 1) := by decide +kernel
theorem dX6_findChance_32 : decode cX6_findChance 32 = .ok (.invokevirtual 190, 3) := by decide +kernel
theorem dX6_findChance_35 : decode cX6_findChance 35 = .ok (.aload_n 0, 1) := by decide +kernel
theorem dX6_findChance_36 : decode cX6_findChance 36 = .ok (.aload_n 0, 1) := by decide +kernel
theorem dX6_findChance_37 : decode cX6_findChance 37 = .ok (.getfield 165, 3) := by decide +kernel
theorem dX6_findChance_40 : decode cX6_findChance 40 = .ok (.aload_n 0, 1) := by decide +kernel
theorem dX6_findChance_41 : decode cX6_findChance 41 = .ok (.getfield 168, 3) := by decide +kernel
theorem dX6_findChance_44 : decode cX6_findChance 44 = .ok (.isub, 1) := by decide +kernel
theorem dX6_findChance_45 : decode cX6_findChance 45 = .ok (.aload_n 0, 1) := by decide +kernel
theorem dX6_findChance_46 : decode cX6_findChance 46 = .ok (.getfield 171, 3) := by decide +kernel
theorem dX6_findChance_49 : decode cX6_findChance 49 = .ok (.iload_n 3, 1) := by decide +kernel
theorem dX6_findChance_50 : decode cX6_findChance 50 = .ok (.isub, 1) := by decide +kernel
theorem dX6_findChance_51 : decode cX6_findChance 51 = .ok (.invokevirtual 190, 3) := by decide +kernel
theorem dX6_findChance_54 : decode cX6_findChance 54 = .ok (.lmul, 1) := by decide +kernel
theorem dX6_findChance_55 : decode cX6_findChance 55 = .ok (.ladd, 1) := by decide +kernel
theorem dX6_findChance_56 : decode cX6_findChance 56 = .ok (.putfield 186, 3) := by decide +kernel
theorem dX6_findChance_59 : decode cX6_findChance 59 = .ok (.iinc 3 1, 3) := by decide +kernel
theorem dX6_findChance_62 : decode cX6_findChance 62 = .ok (.goto (-49), 3) := by decide +kernel
theorem dX6_findChance_65 : decode cX6_findChance 65 = .ok (.aload_n 0, 1) := by decide +kernel
theorem dX6_findChance_66 : decode cX6_findChance 66 = .ok (.aload_n 0, 1) := by decide +kernel
theorem dX6_findChance_67 : decode cX6_findChance 67 = .ok (.aload_n 0, 1) := by decide +kernel
theorem dX6_findChance_68 : decode cX6_findChance 68 = .ok (.getfield 165, 3) := by decide +kernel
theorem dX6_findChance_71 : decode cX6_findChance 71 = .ok (.aload_n 0, 1) := by decide +kernel
theorem dX6_findChance_72 : decode cX6_findChance 72 = .ok (.getfield 171, 3) := by decide +kernel
theorem dX6_findChance_75 : decode cX6_findChance 75 = .ok (.invokevirtual 190, 3) := by decide +kernel
theorem dX6_findChance_78 : decode cX6_findChance 78 = .ok (.putfield 194, 3) := by decide +kernel
theorem dX6_findChance_81 : decode cX6_findChance 81 = .ok (.aload_n 0, 1) := by decide +kernel
theorem dX6_findChance_82 : decode cX6_findChance 82 = .ok (.getfield 186, 3) := by decide +kernel
theorem dX6_findChance_85 : decode cX6_findChance 85 = .ok (.aload_n 0, 1) := by decide +kernel
theorem dX6_findChance_86 : decode cX6_findChance 86 = .ok (.getfield 194, 3) := by decide +kernel
theorem dX6_findChance_89 : decode cX6_findChance 89 = .ok (.invokestatic 197, 3) := by decide +kernel
theorem dX6_findChance_92 : decode cX6_findChance 92 = .ok (.lstore_n 3, 1) := by decide +kernel
theorem dX6_findChance_93 : decode cX6_findChance 93 = .ok (.aload_n 0, 1) := by decide +kernel
theorem dX6_findChance_94 : decode cX6_findChance 94 = .ok (.dup, 1) := by decide +kernel
theorem dX6_findChance_95 : decode cX6_findChance 95 = .ok (.getfield 186, 3) := by decide +kernel
theorem dX6_findChance_98 : decode cX6_findChance 98 = .ok (.lload_n 3, 1) := by decide +kernel
theorem dX6_findChance_99 : decode cX6_findChance 99 = .ok (.ldiv, 1) := by decide +kernel
theorem dX6_findChance_100 : decode cX6_findChance 100 = .ok (.putfield 186, 3) := by decide +kernel
theorem dX6_findChance_103 : decode cX6_findChance 103 = .ok (.aload_n 0, 1) := by decide +kernel
theorem dX6_findChance_104 : decode cX6_findChance 104 = .ok (.dup, 1) := by decide +kernel
theorem dX6_findChance_105 : decode cX6_findChance 105 = .ok (.getfield 194, 3) := by decide +kernel
theorem dX6_findChance_108 : decode cX6_findChance 108 = .ok (.lload_n 3, 1) := by decide +kernel
theorem dX6_findChance_109 : decode cX6_findChance 109 = .ok (.ldiv, 1) := by decide +kernel
theorem dX6_findChance_110 : decode cX6_findChance 110 = .ok (.putfield 194, 3) := by decide +kernel
theorem dX6_findChance_113 : decode cX6_findChance 113 = .ok (.return_, 1) := by decide +kernel
set_option maxRecDepth 20000 in
theorem ggX6_chance_X6_isPair : GoodIn wsX6_chance wsX6_isPair := goodIn_r _ [7, 8, 9, 6, 10, 11, 12, 13, 14] (by decide +kernel) (by decide +kernel)
set_option maxRecDepth 20000 in
theorem gX6_chance_X6_isPair : GoodIn wsX6_chance (va_wsS RX6 177 yX6_isPair wsX6_isPair) := goodIn_app (goodIn_of _ (by decide +kernel)) ggX6_chance_X6_isPair
set_option maxRecDepth 20000 in
theorem ggX6_chance_X6_in : GoodIn wsX6_chance wsX6_in := goodIn_r _ [14] (by decide +kernel) (by decide +kernel)
set_option maxRecDepth 20000 in
theorem gX6_chance_X6_in : GoodIn wsX6_chance (va_wsS RX6 92 yX6_in wsX6_in) := goodIn_app (goodIn_of _ (by decide +kernel)) ggX6_chance_X6_in
set_option maxRecDepth 20000 in
theorem ggX6_chance_X6_findChance : GoodIn wsX6_chance wsX6_findChance := goodIn_r _ [18, 2, 19, 20, 21, 22, 3, 23, 24, 25, 6, 26, 27, 28, 29, 30, 31, 32, 33, 34, 12, 13, 14, 35, 36, 37, 38, 39, 40, 41, 42, 43, 44, 45, 46, 47, 48, 49, 50, 51, 52, 53, 54, 55, 56, 57, 58, 59, 60, 61, 62, 63, 64, 65, 66, 67, 68, 69, 70, 71, 72, 73, 74, 75] (by decide +kernel) (by decide +kernel)
set_option maxRecDepth 20000 in
theorem gX6_chance_X6_findChance : GoodIn wsX6_chance (wsV RX6 203 RX6 yX6_findChance wsX6_findChance) := goodIn_app (goodIn_of _ (by decide +kernel)) ggX6_chance_X6_findChance
theorem dX6_chance_0 : decode cX6_chance 0 = .ok (.iload_n 1, 1) := by decide +kernel
theorem dX6_chance_1 : decode cX6_chance 1 = .ok (.iload_n 2, 1) := by decide +kernel
theorem dX6_chance_2 : decode cX6_chance 2 = .ok (.invokestatic 177, 3) := by decide +kernel
theorem dX6_chance_5 : decode cX6_chance 5 = .ok (.ifCond .eq 13, 3) := by decide +kernel
theorem dX6_chance_8 : decode cX6_chance 8 = .ok (.iload_n 3, 1) := by decide +kernel
theorem dX6_chance_9 : decode cX6_chance 9 = .ok (.i2l, 1) := by decide +kernel
theorem dX6_chance_10 : decode cX6_chance 10 = .ok (.lconst 0, 1) := by decide +kernel
theorem dX6_chance_11 : decode cX6_chance 11 = .ok (.lconst 1, 1) := by decide +kernel
theorem dX6_chance_12 : decode cX6_chance 12 = .ok (.invokestatic 92, 3) := by decide +kernel
theorem dX6_chance_15 : decode cX6_chance 15 = .ok (.ifCond .ne 7, 3) := by decide +kernel
theorem dX6_chance_18 : decode cX6_chance 18 = .ok (.ldc2_w 201, 3) := by decide +kernel
theorem dX6_chance_21 : decode cX6_chance 21 = .ok (.lreturn, 1) := by decide +kernel
theorem dX6_chance_22 : decode cX6_chance 22 = .ok (.aload_n 0, 1) := by decide +kernel
theorem dX6_chance_23 : decode cX6_chance 23 = .ok (.iload_n 1, 1) := by decide +kernel
theorem dX6_chance_24 : decode cX6_chance 24 = .ok (.iload_n 2, 1) := by decide +kernel
theorem dX6_chance_25 : decode cX6_chance 25 = .ok (.invokevirtual 203, 3) := by decide +kernel
theorem dX6_chance_28 : decode cX6_chance 28 = .ok (.iload_n 3, 1) := by decide +kernel
theorem dX6_chance_29 : decode cX6_chance 29 = .ok (.ifCond .ne 10, 3) := by decide +kernel
theorem dX6_chance_32 : decode cX6_chance 32 = .ok (.aload_n 0, 1) := by decide +kernel
theorem dX6_chance_33 : decode cX6_chance 33 = .ok (.getfield 186, 3) := by decide +kernel
theorem dX6_chance_36 : decode cX6_chance 36 = .ok (.goto 7, 3) := by decide +kernel
theorem dX6_chance_39 : decode cX6_chance 39 = .ok (.aload_n 0, 1) := by decide +kernel
theorem dX6_chance_40 : decode cX6_chance 40 = .ok (.getfield 194, 3) := by decide +kernel
theorem dX6_chance_43 : decode cX6_chance 43 = .ok (.lreturn, 1) := by decide +kernel
theorem dX6_isLess_0 : decode cX6_isLess 0 = .ok (.lload_n 0, 1) := by decide +kernel
theorem dX6_isLess_1 : decode cX6_isLess 1 = .ok (.lstore 8, 2) := by decide +kernel
theorem dX6_isLess_3 : decode cX6_isLess 3 = .ok (.lload_n 2, 1) := by decide +kernel
theorem dX6_isLess_4 : decode cX6_isLess 4 = .ok (.lstore 10, 2) := by decide +kernel
theorem dX6_isLess_6 : decode cX6_isLess 6 = .ok (.lload 4, 2) := by decide +kernel
theorem dX6_isLess_8 : decode cX6_isLess 8 = .ok (.lstore 12, 2) := by decide +kernel
theorem dX6_isLess_10 : decode cX6_isLess 10 = .ok (.lload 6, 2) := by decide +kernel
theorem dX6_isLess_12 : decode cX6_isLess 12 = .ok (.lstore 14, 2) := by decide +kernel
theorem dX6_isLess_14 : decode cX6_isLess 14 = .ok (.lload 8, 2) := by decide +kernel
theorem dX6_isLess_16 : decode cX6_isLess 16 = .ok (.lload 10, 2) := by decide +kernel
theorem dX6_isLess_18 : decode cX6_isLess 18 = .ok (.ldiv, 1) := by decide +kernel
theorem dX6_isLess_19 : decode cX6_isLess 19 = .ok (.lload 12, 2) := by decide +kernel
theorem dX6_isLess_21 : decode cX6_isLess 21 = .ok (.lload 14, 2) := by decide +kernel
theorem dX6_isLess_23 : decode cX6_isLess 23 = .ok (.ldiv, 1) := by decide +kernel
theorem dX6_isLess_24 : decode cX6_isLess 24 = .ok (.lcmp, 1) := by decide +kernel
theorem dX6_isLess_25 : decode cX6_isLess 25 = .ok (.ifCond .ne 74, 3) := by decide +kernel
theorem dX6_isLess_28 : decode cX6_isLess 28 = .ok (.lload 8, 2) := by decide +kernel
theorem dX6_isLess_30 : decode cX6_isLess 30 = .ok (.lload 10, 2) := by decide +kernel
theorem dX6_isLess_32 : decode cX6_isLess 32 = .ok (.lrem, 1) := by decide +kernel
theorem dX6_isLess_33 : decode cX6_isLess 33 = .ok (.lstore 16, 2) := by decide +kernel
theorem dX6_isLess_35 : decode cX6_isLess 35 = .ok (.lload 12, 2) := by decide +kernel
theorem dX6_isLess_37 : decode cX6_isLess 37 = .ok (.lload 14, 2) := by decide +kernel
theorem dX6_isLess_39 : decode cX6_isLess 39 = .ok (.lrem, 1) := by decide +kernel
theorem dX6_isLess_40 : decode cX6_isLess 40 = .ok (.lstore 18, 2) := by decide +kernel
theorem dX6_isLess_42 : decode cX6_isLess 42 = .ok (.lload 16, 2) := by decide +kernel
theorem dX6_isLess_44 : decode cX6_isLess 44 = .ok (.lconst 0, 1) := by decide +kernel
theorem dX6_isLess_45 : decode cX6_isLess 45 = .ok (.lcmp, 1) := by decide +kernel
theorem dX6_isLess_46 : decode cX6_isLess 46 = .ok (.ifCond .eq 10, 3) := by decide +kernel
theorem dX6_isLess_49 : decode cX6_isLess 49 = .ok (.lload 18, 2) := by decide +kernel
theorem dX6_isLess_51 : decode cX6_isLess 51 = .ok (.lconst 0, 1) := by decide +kernel
theorem dX6_isLess_52 : decode cX6_isLess 52 = .ok (.lcmp, 1) := by decide +kernel
theorem dX6_isLess_53 : decode cX6_isLess 53 = .ok (.ifCond .ne 23, 3) := by decide +kernel
theorem dX6_isLess_56 : decode cX6_isLess 56 = .ok (.lload 16, 2) := by decide +kernel
theorem dX6_isLess_58 : decode cX6_isLess 58 = .ok (.lconst 0, 1) := by decide +kernel
theorem dX6_isLess_59 : decode cX6_isLess 59 = .ok (.lcmp, 1) := by decide +kernel
theorem dX6_isLess_60 : decode cX6_isLess 60 = .ok (.ifCond .ne 14, 3) := by decide +kernel
theorem dX6_isLess_63 : decode cX6_isLess 63 = .ok (.lload 18, 2) := by decide +kernel
theorem dX6_isLess_65 : decode cX6_isLess 65 = .ok (.lconst 0, 1) := by decide +kernel
theorem dX6_isLess_66 : decode cX6_isLess 66 = .ok (.lcmp, 1) := by decide +kernel
theorem dX6_isLess_67 : decode cX6_isLess 67 = .ok (.ifCond .le 7, 3) := by decide +kernel
theorem dX6_isLess_70 : decode cX6_isLess 70 = .ok (.iconst 1, 1) := by decide +kernel
theorem dX6_isLess_71 : decode cX6_isLess 71 = .ok (.goto 4, 3) := by decide +kernel
theorem dX6_isLess_74 : decode cX6_isLess 74 = .ok (.iconst 0, 1) := by decide +kernel
theorem dX6_isLess_75 : decode cX6_isLess 75 = .ok (.ireturn, 1) := by decide +kernel
theorem dX6_isLess_76 : decode cX6_isLess 76 = .ok (.lload 14, 2) := by decide +kernel
theorem dX6_isLess_78 : decode cX6_isLess 78 = .ok (.lstore 8, 2) := by decide +kernel
theorem dX6_isLess_80 : decode cX6_isLess 80 = .ok (.lload 16, 2) := by decide +kernel
theorem dX6_isLess_82 : decode cX6_isLess 82 = .ok (.lstore 14, 2) := by decide +kernel
theorem dX6_isLess_84 : decode cX6_isLess 84 = .ok (.lload 10, 2) := by decide +kernel
theorem dX6_isLess_86 : decode cX6_isLess 86 = .ok (.lstore 20, 2) := by decide +kernel
theorem dX6_isLess_88 : decode cX6_isLess 88 = .ok (.lload 18, 2) := by decide +kernel
theorem dX6_isLess_90 : decode cX6_isLess 90 = .ok (.lstore 10, 2) := by decide +kernel
theorem dX6_isLess_92 : decode cX6_isLess 92 = .ok (.lload 20, 2) := by decide +kernel
theorem dX6_isLess_94 : decode cX6_isLess 94 = .ok (.lstore 12, 2) := by decide +kernel
theorem dX6_isLess_96 : decode cX6_isLess 96 = .ok (.goto (-82), 3) := by decide +kernel
theorem dX6_isLess_99 : decode cX6_isLess 99 = .ok (.lload 8, 2) := by decide +kernel
theorem dX6_isLess_101 : decode cX6_isLess 101 = .ok (.lload 10, 2) := by decide +kernel
theorem dX6_isLess_103 : decode cX6_isLess 103 = .ok (.ldiv, 1) := by decide +kernel
theorem dX6_isLess_104 : decode cX6_isLess 104 = .ok (.lload 12, 2) := by decide +kernel
theorem dX6_isLess_106 : decode cX6_isLess 106 = .ok (.lload 14, 2) := by decide +kernel
theorem dX6_isLess_108 : decode cX6_isLess 108 = .ok (.ldiv, 1) := by decide +kernel
theorem dX6_isLess_109 : decode cX6_isLess 109 = .ok (.lcmp, 1) := by decide +kernel
theorem dX6_isLess_110 : decode cX6_isLess 110 = .ok (.ifCond .ge 7, 3) := by decide +kernel
theorem dX6_isLess_113 : decode cX6_isLess 113 = .ok (.iconst 1, 1) := by decide +kernel
theorem dX6_isLess_114 : decode cX6_isLess 114 = .ok (.goto 4, 3) := by decide +kernel
theorem dX6_isLess_117 : decode cX6_isLess 117 = .ok (.iconst 0, 1) := by decide +kernel
theorem dX6_isLess_118 : decode cX6_isLess 118 = .ok (.ireturn, 1) := by decide +kernel
set_option maxRecDepth 20000 in
theorem ggX6_shyest_X6_findChance : GoodIn wsX6_shyest wsX6_findChance := goodIn_r _ [7, 1, 8, 9, 10, 11, 2, 12, 13, 14, 6, 15, 16, 17, 18, 19, 20, 21, 22, 23, 24, 25, 26, 27, 28, 29, 33, 34, 35, 36, 37, 38, 39, 40, 41, 42, 43, 44, 45, 46, 47, 48, 49, 50, 51, 52, 53, 54, 55, 56, 57, 58, 59, 60, 61, 62, 63, 64, 65, 66, 67, 68, 69, 70] (by decide +kernel) (by decide +kernel)
set_option maxRecDepth 20000 in
theorem gX6_shyest_X6_findChance : GoodIn wsX6_shyest (wsV RX6 203 RX6 yX6_findChance wsX6_findChance) := goodIn_app (goodIn_of _ (by decide +kernel)) ggX6_shyest_X6_findChance
set_option maxRecDepth 20000 in
theorem ggX6_shyest_X6_isLess : GoodIn wsX6_shyest wsX6_isLess := goodIn_r _ [32] (by decide +kernel) (by decide +kernel)
set_option maxRecDepth 20000 in
theorem gX6_shyest_X6_isLess : GoodIn wsX6_shyest (va_wsS RX6 206 yX6_isLess wsX6_isLess) := goodIn_app (goodIn_of _ (by decide +kernel)) ggX6_shyest_X6_isLess
theorem dX6_shyest_0 : decode cX6_shyest 0 = .ok (.iconst (-1), 1) := by decide +kernel
theorem dX6_shyest_1 : decode cX6_shyest 1 = .ok (.istore_n 1, 1) := by decide +kernel
theorem dX6_shyest_2 : decode cX6_shyest 2 = .ok (.lconst 0, 1) := by decide +kernel
theorem dX6_shyest_3 : decode cX6_shyest 3 = .ok (.lstore_n 2, 1) := by decide +kernel
theorem dX6_shyest_4 : decode cX6_shyest 4 = .ok (.lconst 1, 1) := by decide +kernel
theorem dX6_shyest_5 : decode cX6_shyest 5 = .ok (.lstore 4, 2) := by decide +kernel
theorem dX6_shyest_7 : decode cX6_shyest 7 = .ok (.iconst 0, 1) := by decide +kernel
theorem dX6_shyest_8 : decode cX6_shyest 8 = .ok (.istore 6, 2) := by decide +kernel
theorem dX6_shyest_10 : decode cX6_shyest 10 = .ok (.iload 6, 2) := by decide +kernel
theorem dX6_shyest_12 : decode cX6_shyest 12 = .ok (.bipush 8, 2) := by decide +kernel
theorem dX6_shyest_14 : decode cX6_shyest 14 = .ok (.if_icmp .ge 77, 3) := by decide +kernel
theorem dX6_shyest_17 : decode cX6_shyest 17 = .ok (.iload 6, 2) := by decide +kernel
theorem dX6_shyest_19 : decode cX6_shyest 19 = .ok (.iconst 1, 1) := by decide +kernel
theorem dX6_shyest_20 : decode cX6_shyest 20 = .ok (.iadd, 1) := by decide +kernel
theorem dX6_shyest_21 : decode cX6_shyest 21 = .ok (.istore 7, 2) := by decide +kernel
theorem dX6_shyest_23 : decode cX6_shyest 23 = .ok (.iload 7, 2) := by decide +kernel
theorem dX6_shyest_25 : decode cX6_shyest 25 = .ok (.bipush 8, 2) := by decide +kernel
theorem dX6_shyest_27 : decode cX6_shyest 27 = .ok (.if_icmp .ge 58, 3) := by decide +kernel
theorem dX6_shyest_30 : decode cX6_shyest 30 = .ok (.aload_n 0, 1) := by decide +kernel
theorem dX6_shyest_31 : decode cX6_shyest 31 = .ok (.iload 6, 2) := by decide +kernel
theorem dX6_shyest_33 : decode cX6_shyest 33 = .ok (.iload 7, 2) := by decide +kernel
theorem dX6_shyest_35 : decode cX6_shyest 35 = .ok (.invokevirtual 203, 3) := by decide +kernel
theorem dX6_shyest_38 : decode cX6_shyest 38 = .ok (.iload_n 1, 1) := by decide +kernel
theorem dX6_shyest_39 : decode cX6_shyest 39 = .ok (.ifCond .lt 20, 3) := by decide +kernel
theorem dX6_shyest_42 : decode cX6_shyest 42 = .ok (.aload_n 0, 1) := by decide +kernel
theorem dX6_shyest_43 : decode cX6_shyest 43 = .ok (.getfield 186, 3) := by decide +kernel
theorem dX6_shyest_46 : decode cX6_shyest 46 = .ok (.aload_n 0, 1) := by decide +kernel
theorem dX6_shyest_47 : decode cX6_shyest 47 = .ok (.getfield 194, 3) := by decide +kernel
theorem dX6_shyest_50 : decode cX6_shyest 50 = .ok (.lload_n 2, 1) := by decide +kernel
theorem dX6_shyest_51 : decode cX6_shyest 51 = .ok (.lload 4, 2) := by decide +kernel
theorem dX6_shyest_53 : decode cX6_shyest 53 = .ok (.invokestatic 206, 3) := by decide +kernel
theorem dX6_shyest_56 : decode cX6_shyest 56 = .ok (.ifCond .eq 23, 3) := by decide +kernel
theorem dX6_shyest_59 : decode cX6_shyest 59 = .ok (.bipush 8, 2) := by decide +kernel
theorem dX6_shyest_61 : decode cX6_shyest 61 = .ok (.iload 6, 2) := by decide +kernel
theorem dX6_shyest_63 : decode cX6_shyest 63 = .ok (.imul, 1) := by decide +kernel
theorem dX6_shyest_64 : decode cX6_shyest 64 = .ok (.iload 7, 2) := by decide +kernel
theorem dX6_shyest_66 : decode cX6_shyest 66 = .ok (.iadd, 1) := by decide +kernel
theorem dX6_shyest_67 : decode cX6_shyest 67 = .ok (.istore_n 1, 1) := by decide +kernel
theorem dX6_shyest_68 : decode cX6_shyest 68 = .ok (.aload_n 0, 1) := by decide +kernel
theorem dX6_shyest_69 : decode cX6_shyest 69 = .ok (.getfield 186, 3) := by decide +kernel
theorem dX6_shyest_72 : decode cX6_shyest 72 = .ok (.lstore_n 2, 1) := by decide +kernel
theorem dX6_shyest_73 : decode cX6_shyest 73 = .ok (.aload_n 0, 1) := by decide +kernel
theorem dX6_shyest_74 : decode cX6_shyest 74 = .ok (.getfield 194, 3) := by decide +kernel
theorem dX6_shyest_77 : decode cX6_shyest 77 = .ok (.lstore 4, 2) := by decide +kernel
theorem dX6_shyest_79 : decode cX6_shyest 79 = .ok (.iinc 7 1, 3) := by decide +kernel
theorem dX6_shyest_82 : decode cX6_shyest 82 = .ok (.goto (-59), 3) := by decide +kernel
theorem dX6_shyest_85 : decode cX6_shyest 85 = .ok (.iinc 6 1, 3) := by decide +kernel
theorem dX6_shyest_88 : decode cX6_shyest 88 = .ok (.goto (-78), 3) := by decide +kernel
theorem dX6_shyest_91 : decode cX6_shyest 91 = .ok (.iload_n 1, 1) := by decide +kernel
theorem dX6_shyest_92 : decode cX6_shyest 92 = .ok (.ireturn, 1) := by decide +kernel
set_option maxRecDepth 20000 in
theorem ggX6_inside_X6_in : GoodIn wsX6_inside wsX6_in := goodIn_r _ [6] (by decide +kernel) (by decide +kernel)
set_option maxRecDepth 20000 in
theorem gX6_inside_X6_in : GoodIn wsX6_inside (va_wsS RX6 92 yX6_in wsX6_in) := goodIn_app (goodIn_of _ (by decide +kernel)) ggX6_inside_X6_in
set_option maxRecDepth 20000 in
theorem ggX6_inside_X6_bits : GoodIn wsX6_inside wsX6_bits := goodIn_r _ [9] (by decide +kernel) (by decide +kernel)
set_option maxRecDepth 20000 in
theorem gX6_inside_X6_bits : GoodIn wsX6_inside (va_wsS RX6 126 yX6_bits wsX6_bits) := goodIn_app (goodIn_of _ (by decide +kernel)) ggX6_inside_X6_bits
theorem dX6_inside_0 : decode cX6_inside 0 = .ok (.iload_n 1, 1) := by decide +kernel
theorem dX6_inside_1 : decode cX6_inside 1 = .ok (.i2l, 1) := by decide +kernel
theorem dX6_inside_2 : decode cX6_inside 2 = .ok (.lconst 0, 1) := by decide +kernel
theorem dX6_inside_3 : decode cX6_inside 3 = .ok (.ldc2_w 160, 3) := by decide +kernel
theorem dX6_inside_6 : decode cX6_inside 6 = .ok (.invokestatic 92, 3) := by decide +kernel
theorem dX6_inside_9 : decode cX6_inside 9 = .ok (.ifCond .eq 47, 3) := by decide +kernel
theorem dX6_inside_12 : decode cX6_inside 12 = .ok (.iload_n 1, 1) := by decide +kernel
theorem dX6_inside_13 : decode cX6_inside 13 = .ok (.invokestatic 126, 3) := by decide +kernel
theorem dX6_inside_16 : decode cX6_inside 16 = .ok (.iconst 2, 1) := by decide +kernel
theorem dX6_inside_17 : decode cX6_inside 17 = .ok (.if_icmp .lt 39, 3) := by decide +kernel
theorem dX6_inside_20 : decode cX6_inside 20 = .ok (.iload_n 2, 1) := by decide +kernel
theorem dX6_inside_21 : decode cX6_inside 21 = .ok (.i2l, 1) := by decide +kernel
theorem dX6_inside_22 : decode cX6_inside 22 = .ok (.lconst 0, 1) := by decide +kernel
theorem dX6_inside_23 : decode cX6_inside 23 = .ok (.ldc2_w 143, 3) := by decide +kernel
theorem dX6_inside_26 : decode cX6_inside 26 = .ok (.invokestatic 92, 3) := by decide +kernel
theorem dX6_inside_29 : decode cX6_inside 29 = .ok (.ifCond .eq 27, 3) := by decide +kernel
theorem dX6_inside_32 : decode cX6_inside 32 = .ok (.iload_n 3, 1) := by decide +kernel
theorem dX6_inside_33 : decode cX6_inside 33 = .ok (.i2l, 1) := by decide +kernel
theorem dX6_inside_34 : decode cX6_inside 34 = .ok (.iload_n 2, 1) := by decide +kernel
theorem dX6_inside_35 : decode cX6_inside 35 = .ok (.i2l, 1) := by decide +kernel
theorem dX6_inside_36 : decode cX6_inside 36 = .ok (.ldc2_w 143, 3) := by decide +kernel
theorem dX6_inside_39 : decode cX6_inside 39 = .ok (.invokestatic 92, 3) := by decide +kernel
theorem dX6_inside_42 : decode cX6_inside 42 = .ok (.ifCond .eq 14, 3) := by decide +kernel
theorem dX6_inside_45 : decode cX6_inside 45 = .ok (.iload 4, 2) := by decide +kernel
theorem dX6_inside_47 : decode cX6_inside 47 = .ok (.i2l, 1) := by decide +kernel
theorem dX6_inside_48 : decode cX6_inside 48 = .ok (.lconst 0, 1) := by decide +kernel
theorem dX6_inside_49 : decode cX6_inside 49 = .ok (.lconst 1, 1) := by decide +kernel
theorem dX6_inside_50 : decode cX6_inside 50 = .ok (.invokestatic 92, 3) := by decide +kernel
theorem dX6_inside_53 : decode cX6_inside 53 = .ok (.ifCond .ne 6, 3) := by decide +kernel
theorem dX6_inside_56 : decode cX6_inside 56 = .ok (.bipush (-2), 2) := by decide +kernel
theorem dX6_inside_58 : decode cX6_inside 58 = .ok (.ireturn, 1) := by decide +kernel
theorem dX6_inside_59 : decode cX6_inside 59 = .ok (.iload_n 3, 1) := by decide +kernel
theorem dX6_inside_60 : decode cX6_inside 60 = .ok (.iload_n 2, 1) := by decide +kernel
theorem dX6_inside_61 : decode cX6_inside 61 = .ok (.isub, 1) := by decide +kernel
theorem dX6_inside_62 : decode cX6_inside 62 = .ok (.iload_n 1, 1) := by decide +kernel
theorem dX6_inside_63 : decode cX6_inside 63 = .ok (.invokestatic 126, 3) := by decide +kernel
theorem dX6_inside_66 : decode cX6_inside 66 = .ok (.idiv, 1) := by decide +kernel
theorem dX6_inside_67 : decode cX6_inside 67 = .ok (.istore 5, 2) := by decide +kernel
theorem dX6_inside_69 : decode cX6_inside 69 = .ok (.iload 4, 2) := by decide +kernel
theorem dX6_inside_71 : decode cX6_inside 71 = .ok (.ifCond .ne 8, 3) := by decide +kernel
theorem dX6_inside_74 : decode cX6_inside 74 = .ok (.iload 5, 2) := by decide +kernel
theorem dX6_inside_76 : decode cX6_inside 76 = .ok (.goto 16, 3) := by decide +kernel
theorem dX6_inside_79 : decode cX6_inside 79 = .ok (.iload_n 3, 1) := by decide +kernel
theorem dX6_inside_80 : decode cX6_inside 80 = .ok (.iload_n 2, 1) := by decide +kernel
theorem dX6_inside_81 : decode cX6_inside 81 = .ok (.isub, 1) := by decide +kernel
theorem dX6_inside_82 : decode cX6_inside 82 = .ok (.iload 5, 2) := by decide +kernel
theorem dX6_inside_84 : decode cX6_inside 84 = .ok (.iload_n 1, 1) := by decide +kernel
theorem dX6_inside_85 : decode cX6_inside 85 = .ok (.invokestatic 126, 3) := by decide +kernel
theorem dX6_inside_88 : decode cX6_inside 88 = .ok (.iconst 1, 1) := by decide +kernel
theorem dX6_inside_89 : decode cX6_inside 89 = .ok (.isub, 1) := by decide +kernel
theorem dX6_inside_90 : decode cX6_inside 90 = .ok (.imul, 1) := by decide +kernel
theorem dX6_inside_91 : decode cX6_inside 91 = .ok (.isub, 1) := by decide +kernel
theorem dX6_inside_92 : decode cX6_inside 92 = .ok (.ireturn, 1) := by decide +kernel
set_option maxRecDepth 20000 in
theorem ggX6_entry_X6_in : GoodIn wsX6_entry wsX6_in := goodIn_r _ [7] (by decide +kernel) (by decide +kernel)
set_option maxRecDepth 20000 in
theorem gX6_entry_X6_in : GoodIn wsX6_entry (va_wsS RX6 92 yX6_in wsX6_in) := goodIn_app (goodIn_of _ (by decide +kernel)) ggX6_entry_X6_in
theorem dX6_entry_0 : decode cX6_entry 0 = .ok (.iload_n 1, 1) := by decide +kernel
theorem dX6_entry_1 : decode cX6_entry 1 = .ok (.i2l, 1) := by decide +kernel
theorem dX6_entry_2 : decode cX6_entry 2 = .ok (.lconst 0, 1) := by decide +kernel
theorem dX6_entry_3 : decode cX6_entry 3 = .ok (.ldc2_w 210, 3) := by decide +kernel
theorem dX6_entry_6 : decode cX6_entry 6 = .ok (.invokestatic 92, 3) := by decide +kernel
theorem dX6_entry_9 : decode cX6_entry 9 = .ok (.ifCond .ne 6, 3) := by decide +kernel
theorem dX6_entry_12 : decode cX6_entry 12 = .ok (.bipush (-2), 2) := by decide +kernel
theorem dX6_entry_14 : decode cX6_entry 14 = .ok (.ireturn, 1) := by decide +kernel
theorem dX6_entry_15 : decode cX6_entry 15 = .ok (.aload_n 0, 1) := by decide +kernel
theorem dX6_entry_16 : decode cX6_entry 16 = .ok (.getfield 212, 3) := by decide +kernel
theorem dX6_entry_19 : decode cX6_entry 19 = .ok (.bipush 10, 2) := by decide +kernel
theorem dX6_entry_21 : decode cX6_entry 21 = .ok (.if_icmp .ne 6, 3) := by decide +kernel
theorem dX6_entry_24 : decode cX6_entry 24 = .ok (.bipush (-4), 2) := by decide +kernel
theorem dX6_entry_26 : decode cX6_entry 26 = .ok (.ireturn, 1) := by decide +kernel
theorem dX6_entry_27 : decode cX6_entry 27 = .ok (.aload_n 0, 1) := by decide +kernel
theorem dX6_entry_28 : decode cX6_entry 28 = .ok (.getfield 75, 3) := by decide +kernel
theorem dX6_entry_31 : decode cX6_entry 31 = .ok (.aload_n 0, 1) := by decide +kernel
theorem dX6_entry_32 : decode cX6_entry 32 = .ok (.getfield 212, 3) := by decide +kernel
theorem dX6_entry_35 : decode cX6_entry 35 = .ok (.iload_n 1, 1) := by decide +kernel
theorem dX6_entry_36 : decode cX6_entry 36 = .ok (.iastore, 1) := by decide +kernel
theorem dX6_entry_37 : decode cX6_entry 37 = .ok (.aload_n 0, 1) := by decide +kernel
theorem dX6_entry_38 : decode cX6_entry 38 = .ok (.dup, 1) := by decide +kernel
theorem dX6_entry_39 : decode cX6_entry 39 = .ok (.getfield 212, 3) := by decide +kernel
theorem dX6_entry_42 : decode cX6_entry 42 = .ok (.iconst 1, 1) := by decide +kernel
theorem dX6_entry_43 : decode cX6_entry 43 = .ok (.iadd, 1) := by decide +kernel
theorem dX6_entry_44 : decode cX6_entry 44 = .ok (.putfield 212, 3) := by decide +kernel
theorem dX6_entry_47 : decode cX6_entry 47 = .ok (.aload_n 0, 1) := by decide +kernel
theorem dX6_entry_48 : decode cX6_entry 48 = .ok (.getfield 212, 3) := by decide +kernel
theorem dX6_entry_51 : decode cX6_entry 51 = .ok (.iconst 1, 1) := by decide +kernel
theorem dX6_entry_52 : decode cX6_entry 52 = .ok (.isub, 1) := by decide +kernel
theorem dX6_entry_53 : decode cX6_entry 53 = .ok (.ireturn, 1) := by decide +kernel
set_option maxRecDepth 20000 in
theorem ggX6_mark_X6_noThing : GoodIn wsX6_mark wsX6_noThing := goodIn_r _ [9, 10, 11, 12, 8, 13, 14, 15, 16, 17, 18, 19, 20, 21, 22, 23, 24, 25, 26, 27, 28, 29, 30, 31, 32, 33, 34, 35, 36, 37, 38, 39, 40, 41, 42, 43, 44, 45, 46, 47, 48, 49, 50, 51] (by decide +kernel) (by decide +kernel)
set_option maxRecDepth 20000 in
theorem gX6_mark_X6_noThing : GoodIn wsX6_mark (wsV RX6 107 RX6 yX6_noThing wsX6_noThing) := goodIn_app (goodIn_of _ (by decide +kernel)) ggX6_mark_X6_noThing
set_option maxRecDepth 20000 in
theorem ggX6_mark_X6_in : GoodIn wsX6_mark wsX6_in := goodIn_r _ [13] (by decide +kernel) (by decide +kernel)
set_option maxRecDepth 20000 in
theorem gX6_mark_X6_in : GoodIn wsX6_mark (va_wsS RX6 92 yX6_in wsX6_in) := goodIn_app (goodIn_of _ (by decide +kernel)) ggX6_mark_X6_in
theorem dX6_mark_0 : decode cX6_mark 0 = .ok (.aload_n 0, 1) := by decide +kernel
theorem dX6_mark_1 : decode cX6_mark 1 = .ok (.iload_n 1, 1) := by decide +kernel
theorem dX6_mark_2 : decode cX6_mark 2 = .ok (.invokevirtual 107, 3) := by decide +kernel
theorem dX6_mark_5 : decode cX6_mark 5 = .ok (.ifCond .ne 27, 3) := by decide +kernel
theorem dX6_mark_8 : decode cX6_mark 8 = .ok (.iload_n 2, 1) := by decide +kernel
theorem dX6_mark_9 : decode cX6_mark 9 = .ok (.i2l, 1) := by decide +kernel
theorem dX6_mark_10 : decode cX6_mark 10 = .ok (.lconst 0, 1) := by decide +kernel
theorem dX6_mark_11 : decode cX6_mark 11 = .ok (.ldc2_w 215, 3) := by decide +kernel
theorem dX6_mark_14 : decode cX6_mark 14 = .ok (.invokestatic 92, 3) := by decide +kernel
theorem dX6_mark_17 : decode cX6_mark 17 = .ok (.ifCond .eq 15, 3) := by decide +kernel
theorem dX6_mark_20 : decode cX6_mark 20 = .ok (.iload_n 3, 1) := by decide +kernel
theorem dX6_mark_21 : decode cX6_mark 21 = .ok (.i2l, 1) := by decide +kernel
theorem dX6_mark_22 : decode cX6_mark 22 = .ok (.lconst 0, 1) := by decide +kernel
theorem dX6_mark_23 : decode cX6_mark 23 = .ok (.ldc2_w 217, 3) := by decide +kernel
theorem dX6_mark_26 : decode cX6_mark 26 = .ok (.invokestatic 92, 3) := by decide +kernel
theorem dX6_mark_29 : decode cX6_mark 29 = .ok (.ifCond .ne 6, 3) := by decide +kernel
theorem dX6_mark_32 : decode cX6_mark 32 = .ok (.bipush (-2), 2) := by decide +kernel
theorem dX6_mark_34 : decode cX6_mark 34 = .ok (.ireturn, 1) := by decide +kernel
theorem dX6_mark_35 : decode cX6_mark 35 = .ok (.aload_n 0, 1) := by decide +kernel
theorem dX6_mark_36 : decode cX6_mark 36 = .ok (.getfield 28, 3) := by decide +kernel
theorem dX6_mark_39 : decode cX6_mark 39 = .ok (.iload_n 1, 1) := by decide +kernel
theorem dX6_mark_40 : decode cX6_mark 40 = .ok (.iaload, 1) := by decide +kernel
theorem dX6_mark_41 : decode cX6_mark 41 = .ok (.iload_n 2, 1) := by decide +kernel
theorem dX6_mark_42 : decode cX6_mark 42 = .ok (.ishr, 1) := by decide +kernel
theorem dX6_mark_43 : decode cX6_mark 43 = .ok (.iconst 1, 1) := by decide +kernel
theorem dX6_mark_44 : decode cX6_mark 44 = .ok (.iand, 1) := by decide +kernel
theorem dX6_mark_45 : decode cX6_mark 45 = .ok (.iconst 2, 1) := by decide +kernel
theorem dX6_mark_46 : decode cX6_mark 46 = .ok (.aload_n 0, 1) := by decide +kernel
theorem dX6_mark_47 : decode cX6_mark 47 = .ok (.getfield 31, 3) := by decide +kernel
theorem dX6_mark_50 : decode cX6_mark 50 = .ok (.iload_n 1, 1) := by decide +kernel
theorem dX6_mark_51 : decode cX6_mark 51 = .ok (.iaload, 1) := by decide +kernel
theorem dX6_mark_52 : decode cX6_mark 52 = .ok (.iload_n 2, 1) := by decide +kernel
theorem dX6_mark_53 : decode cX6_mark 53 = .ok (.ishr, 1) := by decide +kernel
theorem dX6_mark_54 : decode cX6_mark 54 = .ok (.iconst 1, 1) := by decide +kernel
theorem dX6_mark_55 : decode cX6_mark 55 = .ok (.iand, 1) := by decide +kernel
theorem dX6_mark_56 : decode cX6_mark 56 = .ok (.imul, 1) := by decide +kernel
theorem dX6_mark_57 : decode cX6_mark 57 = .ok (.iadd, 1) := by decide +kernel
theorem dX6_mark_58 : decode cX6_mark 58 = .ok (.istore 4, 2) := by decide +kernel
theorem dX6_mark_60 : decode cX6_mark 60 = .ok (.aload_n 0, 1) := by decide +kernel
theorem dX6_mark_61 : decode cX6_mark 61 = .ok (.getfield 28, 3) := by decide +kernel
theorem dX6_mark_64 : decode cX6_mark 64 = .ok (.iload_n 1, 1) := by decide +kernel
theorem dX6_mark_65 : decode cX6_mark 65 = .ok (.aload_n 0, 1) := by decide +kernel
theorem dX6_mark_66 : decode cX6_mark 66 = .ok (.getfield 28, 3) := by decide +kernel
theorem dX6_mark_69 : decode cX6_mark 69 = .ok (.iload_n 1, 1) := by decide +kernel
theorem dX6_mark_70 : decode cX6_mark 70 = .ok (.iaload, 1) := by decide +kernel
theorem dX6_mark_71 : decode cX6_mark 71 = .ok (.iconst 1, 1) := by decide +kernel
theorem dX6_mark_72 : decode cX6_mark 72 = .ok (.iload_n 2, 1) := by decide +kernel
theorem dX6_mark_73 : decode cX6_mark 73 = .ok (.ishl, 1) := by decide +kernel
theorem dX6_mark_74 : decode cX6_mark 74 = .ok (.iconst (-1), 1) := by decide +kernel
theorem dX6_mark_75 : decode cX6_mark 75 = .ok (.ixor, 1) := by decide +kernel
theorem dX6_mark_76 : decode cX6_mark 76 = .ok (.iand, 1) := by decide +kernel
theorem dX6_mark_77 : decode cX6_mark 77 = .ok (.iload_n 3, 1) := by decide +kernel
theorem dX6_mark_78 : decode cX6_mark 78 = .ok (.iconst 1, 1) := by decide +kernel
theorem dX6_mark_79 : decode cX6_mark 79 = .ok (.if_icmp .ne 9, 3) := by decide +kernel
theorem dX6_mark_82 : decode cX6_mark 82 = .ok (.iconst 1, 1) := by decide +kernel
theorem dX6_mark_83 : decode cX6_mark 83 = .ok (.iload_n 2, 1) := by decide +kernel
theorem dX6_mark_84 : decode cX6_mark 84 = .ok (.ishl, 1) := by decide +kernel
theorem dX6_mark_85 : decode cX6_mark 85 = .ok (.goto 4, 3) := by decide +kernel
theorem dX6_mark_88 : decode cX6_mark 88 = .ok (.iconst 0, 1) := by decide +kernel
theorem dX6_mark_89 : decode cX6_mark 89 = .ok (.ior, 1) := by decide +kernel
theorem dX6_mark_90 : decode cX6_mark 90 = .ok (.iastore, 1) := by decide +kernel
theorem dX6_mark_91 : decode cX6_mark 91 = .ok (.aload_n 0, 1) := by decide +kernel
theorem dX6_mark_92 : decode cX6_mark 92 = .ok (.getfield 31, 3) := by decide +kernel
theorem dX6_mark_95 : decode cX6_mark 95 = .ok (.iload_n 1, 1) := by decide +kernel
theorem dX6_mark_96 : decode cX6_mark 96 = .ok (.aload_n 0, 1) := by decide +kernel
theorem dX6_mark_97 : decode cX6_mark 97 = .ok (.getfield 31, 3) := by decide +kernel
theorem dX6_mark_100 : decode cX6_mark 100 = .ok (.iload_n 1, 1) := by decide +kernel
theorem dX6_mark_101 : decode cX6_mark 101 = .ok (.iaload, 1) := by decide +kernel
theorem dX6_mark_102 : decode cX6_mark 102 = .ok (.iconst 1, 1) := by decide +kernel
theorem dX6_mark_103 : decode cX6_mark 103 = .ok (.iload_n 2, 1) := by decide +kernel
theorem dX6_mark_104 : decode cX6_mark 104 = .ok (.ishl, 1) := by decide +kernel
theorem dX6_mark_105 : decode cX6_mark 105 = .ok (.iconst (-1), 1) := by decide +kernel
theorem dX6_mark_106 : decode cX6_mark 106 = .ok (.ixor, 1) := by decide +kernel
theorem dX6_mark_107 : decode cX6_mark 107 = .ok (.iand, 1) := by decide +kernel
theorem dX6_mark_108 : decode cX6_mark 108 = .ok (.iload_n 3, 1) := by decide +kernel
theorem dX6_mark_109 : decode cX6_mark 109 = .ok (.iconst 2, 1) := by decide +kernel
theorem dX6_mark_110 : decode cX6_mark 110 = .ok (.if_icmp .ne 9, 3) := by decide +kernel
theorem dX6_mark_113 : decode cX6_mark 113 = .ok (.iconst 1, 1) := by decide +kernel
theorem dX6_mark_114 : decode cX6_mark 114 = .ok (.iload_n 2, 1) := by decide +kernel
theorem dX6_mark_115 : decode cX6_mark 115 = .ok (.ishl, 1) := by decide +kernel
theorem dX6_mark_116 : decode cX6_mark 116 = .ok (.goto 4, 3) := by decide +kernel
theorem dX6_mark_119 : decode cX6_mark 119 = .ok (.iconst 0, 1) := by decide +kernel
theorem dX6_mark_120 : decode cX6_mark 120 = .ok (.ior, 1) := by decide +kernel
theorem dX6_mark_121 : decode cX6_mark 121 = .ok (.iastore, 1) := by decide +kernel
theorem dX6_mark_122 : decode cX6_mark 122 = .ok (.iload 4, 2) := by decide +kernel
theorem dX6_mark_124 : decode cX6_mark 124 = .ok (.ireturn, 1) := by decide +kernel
set_option maxRecDepth 20000 in
theorem ggX6_scoreOf_X6_bits : GoodIn wsX6_scoreOf wsX6_bits := goodIn_r _ [7] (by decide +kernel) (by decide +kernel)
set_option maxRecDepth 20000 in
theorem gX6_scoreOf_X6_bits : GoodIn wsX6_scoreOf (va_wsS RX6 126 yX6_bits wsX6_bits) := goodIn_app (goodIn_of _ (by decide +kernel)) ggX6_scoreOf_X6_bits
theorem dX6_scoreOf_0 : decode cX6_scoreOf 0 = .ok (.iconst 2, 1) := by decide +kernel
theorem dX6_scoreOf_1 : decode cX6_scoreOf 1 = .ok (.aload_n 0, 1) := by decide +kernel
theorem dX6_scoreOf_2 : decode cX6_scoreOf 2 = .ok (.getfield 75, 3) := by decide +kernel
theorem dX6_scoreOf_5 : decode cX6_scoreOf 5 = .ok (.iload_n 1, 1) := by decide +kernel
theorem dX6_scoreOf_6 : decode cX6_scoreOf 6 = .ok (.iaload, 1) := by decide +kernel
theorem dX6_scoreOf_7 : decode cX6_scoreOf 7 = .ok (.aload_n 0, 1) := by decide +kernel
theorem dX6_scoreOf_8 : decode cX6_scoreOf 8 = .ok (.getfield 28, 3) := by decide +kernel
theorem dX6_scoreOf_11 : decode cX6_scoreOf 11 = .ok (.iload_n 2, 1) := by decide +kernel
theorem dX6_scoreOf_12 : decode cX6_scoreOf 12 = .ok (.iaload, 1) := by decide +kernel
theorem dX6_scoreOf_13 : decode cX6_scoreOf 13 = .ok (.iand, 1) := by decide +kernel
theorem dX6_scoreOf_14 : decode cX6_scoreOf 14 = .ok (.invokestatic 126, 3) := by decide +kernel
theorem dX6_scoreOf_17 : decode cX6_scoreOf 17 = .ok (.imul, 1) := by decide +kernel
theorem dX6_scoreOf_18 : decode cX6_scoreOf 18 = .ok (.iconst 3, 1) := by decide +kernel
theorem dX6_scoreOf_19 : decode cX6_scoreOf 19 = .ok (.aload_n 0, 1) := by decide +kernel
theorem dX6_scoreOf_20 : decode cX6_scoreOf 20 = .ok (.getfield 75, 3) := by decide +kernel
theorem dX6_scoreOf_23 : decode cX6_scoreOf 23 = .ok (.iload_n 1, 1) := by decide +kernel
theorem dX6_scoreOf_24 : decode cX6_scoreOf 24 = .ok (.iaload, 1) := by decide +kernel
theorem dX6_scoreOf_25 : decode cX6_scoreOf 25 = .ok (.aload_n 0, 1) := by decide +kernel
theorem dX6_scoreOf_26 : decode cX6_scoreOf 26 = .ok (.getfield 31, 3) := by decide +kernel
theorem dX6_scoreOf_29 : decode cX6_scoreOf 29 = .ok (.iload_n 2, 1) := by decide +kernel
theorem dX6_scoreOf_30 : decode cX6_scoreOf 30 = .ok (.iaload, 1) := by decide +kernel
theorem dX6_scoreOf_31 : decode cX6_scoreOf 31 = .ok (.iand, 1) := by decide +kernel
theorem dX6_scoreOf_32 : decode cX6_scoreOf 32 = .ok (.invokestatic 126, 3) := by decide +kernel
theorem dX6_scoreOf_35 : decode cX6_scoreOf 35 = .ok (.imul, 1) := by decide +kernel
theorem dX6_scoreOf_36 : decode cX6_scoreOf 36 = .ok (.isub, 1) := by decide +kernel
theorem dX6_scoreOf_37 : decode cX6_scoreOf 37 = .ok (.aload_n 0, 1) := by decide +kernel
theorem dX6_scoreOf_38 : decode cX6_scoreOf 38 = .ok (.getfield 28, 3) := by decide +kernel
theorem dX6_scoreOf_41 : decode cX6_scoreOf 41 = .ok (.iload_n 2, 1) := by decide +kernel
theorem dX6_scoreOf_42 : decode cX6_scoreOf 42 = .ok (.iaload, 1) := by decide +kernel
theorem dX6_scoreOf_43 : decode cX6_scoreOf 43 = .ok (.aload_n 0, 1) := by decide +kernel
theorem dX6_scoreOf_44 : decode cX6_scoreOf 44 = .ok (.getfield 75, 3) := by decide +kernel
theorem dX6_scoreOf_47 : decode cX6_scoreOf 47 = .ok (.iload_n 1, 1) := by decide +kernel
theorem dX6_scoreOf_48 : decode cX6_scoreOf 48 = .ok (.iaload, 1) := by decide +kernel
theorem dX6_scoreOf_49 : decode cX6_scoreOf 49 = .ok (.iconst (-1), 1) := by decide +kernel
theorem dX6_scoreOf_50 : decode cX6_scoreOf 50 = .ok (.ixor, 1) := by decide +kernel
theorem dX6_scoreOf_51 : decode cX6_scoreOf 51 = .ok (.iand, 1) := by decide +kernel
theorem dX6_scoreOf_52 : decode cX6_scoreOf 52 = .ok (.invokestatic 126, 3) := by decide +kernel
theorem dX6_scoreOf_55 : decode cX6_scoreOf 55 = .ok (.isub, 1) := by decide +kernel
theorem dX6_scoreOf_56 : decode cX6_scoreOf 56 = .ok (.ireturn, 1) := by decide +kernel
set_option maxRecDepth 20000 in
theorem ggX6_score_X6_in : GoodIn wsX6_score wsX6_in := goodIn_r _ [5] (by decide +kernel) (by decide +kernel)
set_option maxRecDepth 20000 in
theorem gX6_score_X6_in : GoodIn wsX6_score (va_wsS RX6 92 yX6_in wsX6_in) := goodIn_app (goodIn_of _ (by decide +kernel)) ggX6_score_X6_in
set_option maxRecDepth 20000 in
theorem ggX6_score_X6_noThing : GoodIn wsX6_score wsX6_noThing := goodIn_r _ [9, 10, 2, 3, 4, 5, 21, 22, 23, 24, 25, 26, 27, 28, 29, 30, 31, 32, 33, 34, 35, 36, 37, 38, 39, 40, 41, 42, 43, 44, 45, 46, 47, 48, 49, 50, 51, 52, 53, 54, 55, 56, 57, 58] (by decide +kernel) (by decide +kernel)
set_option maxRecDepth 20000 in
theorem gX6_score_X6_noThing : GoodIn wsX6_score (wsV RX6 107 RX6 yX6_noThing wsX6_noThing) := goodIn_app (goodIn_of _ (by decide +kernel)) ggX6_score_X6_noThing
set_option maxRecDepth 20000 in
theorem ggX6_score_X6_scoreOf : GoodIn wsX6_score wsX6_scoreOf := goodIn_r _ [14, 15, 16, 17, 18, 19, 4, 20, 21, 22, 23, 24, 25, 26, 27, 28, 29, 30, 31, 32, 33, 34, 35, 36, 37, 38, 39, 40, 41, 42, 43, 44, 45, 46, 47, 48, 49, 50, 51, 52, 53, 54, 55, 56, 57, 58] (by decide +kernel) (by decide +kernel)
set_option maxRecDepth 20000 in
theorem gX6_score_X6_scoreOf : GoodIn wsX6_score (wsV RX6 219 RX6 yX6_scoreOf wsX6_scoreOf) := goodIn_app (goodIn_of _ (by decide +kernel)) ggX6_score_X6_scoreOf
theorem dX6_score_0 : decode cX6_score 0 = .ok (.iload_n 1, 1) := by decide +kernel
theorem dX6_score_1 : decode cX6_score 1 = .ok (.i2l, 1) := by decide +kernel
theorem dX6_score_2 : decode cX6_score 2 = .ok (.lconst 0, 1) := by decide +kernel
theorem dX6_score_3 : decode cX6_score 3 = .ok (.aload_n 0, 1) := by decide +kernel
theorem dX6_score_4 : decode cX6_score 4 = .ok (.getfield 212, 3) := by decide +kernel
theorem dX6_score_7 : decode cX6_score 7 = .ok (.iconst 1, 1) := by decide +kernel
theorem dX6_score_8 : decode cX6_score 8 = .ok (.isub, 1) := by decide +kernel
theorem dX6_score_9 : decode cX6_score 9 = .ok (.i2l, 1) := by decide +kernel
theorem dX6_score_10 : decode cX6_score 10 = .ok (.invokestatic 92, 3) := by decide +kernel
theorem dX6_score_13 : decode cX6_score 13 = .ok (.ifCond .eq 11, 3) := by decide +kernel
theorem dX6_score_16 : decode cX6_score 16 = .ok (.aload_n 0, 1) := by decide +kernel
theorem dX6_score_17 : decode cX6_score 17 = .ok (.iload_n 2, 1) := by decide +kernel
theorem dX6_score_18 : decode cX6_score 18 = .ok (.invokevirtual 107, 3) := by decide +kernel
theorem dX6_score_21 : decode cX6_score 21 = .ok (.ifCond .eq 9, 3) := by decide +kernel
theorem dX6_score_24 : decode cX6_score 24 = .ok (.sipush (-1000), 3) := by decide +kernel
theorem dX6_score_27 : decode cX6_score 27 = .ok (.goto 9, 3) := by decide +kernel
theorem dX6_score_30 : decode cX6_score 30 = .ok (.aload_n 0, 1) := by decide +kernel
theorem dX6_score_31 : decode cX6_score 31 = .ok (.iload_n 1, 1) := by decide +kernel
theorem dX6_score_32 : decode cX6_score 32 = .ok (.iload_n 2, 1) := by decide +kernel
theorem dX6_score_33 : decode cX6_score 33 = .ok (.invokevirtual 219, 3) := by decide +kernel
theorem dX6_score_36 : decode cX6_score 36 = .ok (.ireturn, 1) := by decide +kernel
set_option maxRecDepth 20000 in
theorem ggX6_findJoined_X6_scoreOf : GoodIn wsX6_findJoined wsX6_scoreOf := goodIn_r _ [10, 11, 12, 13, 14, 15, 9, 16, 17, 18, 19, 20, 21, 22, 23, 24, 25, 26, 27, 28, 29, 30, 31, 32, 33, 34, 35, 36, 37, 38, 39, 40, 41, 42, 43, 44, 45, 46, 47, 48, 49, 50, 51, 52, 53, 54] (by decide +kernel) (by decide +kernel)
set_option maxRecDepth 20000 in
theorem gX6_findJoined_X6_scoreOf : GoodIn wsX6_findJoined (wsV RX6 219 RX6 yX6_scoreOf wsX6_scoreOf) := goodIn_app (goodIn_of _ (by decide +kernel)) ggX6_findJoined_X6_scoreOf
theorem dX6_findJoined_0 : decode cX6_findJoined 0 = .ok (.iconst 0, 1) := by decide +kernel
theorem dX6_findJoined_1 : decode cX6_findJoined 1 = .ok (.istore_n 1, 1) := by decide +kernel
theorem dX6_findJoined_2 : decode cX6_findJoined 2 = .ok (.iload_n 1, 1) := by decide +kernel
theorem dX6_findJoined_3 : decode cX6_findJoined 3 = .ok (.aload_n 0, 1) := by decide +kernel
theorem dX6_findJoined_4 : decode cX6_findJoined 4 = .ok (.getfield 212, 3) := by decide +kernel
theorem dX6_findJoined_7 : decode cX6_findJoined 7 = .ok (.if_icmp .ge 42, 3) := by decide +kernel
theorem dX6_findJoined_10 : decode cX6_findJoined 10 = .ok (.iconst 0, 1) := by decide +kernel
theorem dX6_findJoined_11 : decode cX6_findJoined 11 = .ok (.istore_n 2, 1) := by decide +kernel
theorem dX6_findJoined_12 : decode cX6_findJoined 12 = .ok (.iload_n 2, 1) := by decide +kernel
theorem dX6_findJoined_13 : decode cX6_findJoined 13 = .ok (.aload_n 0, 1) := by decide +kernel
theorem dX6_findJoined_14 : decode cX6_findJoined 14 = .ok (.getfield 104, 3) := by decide +kernel
theorem dX6_findJoined_17 : decode cX6_findJoined 17 = .ok (.if_icmp .ge 26, 3) := by decide +kernel
theorem dX6_findJoined_20 : decode cX6_findJoined 20 = .ok (.aload_n 0, 1) := by decide +kernel
theorem dX6_findJoined_21 : decode cX6_findJoined 21 = .ok (.getfield 84, 3) := by decide +kernel
theorem dX6_findJoined_24 : decode cX6_findJoined 24 = .ok (.bipush 12, 2) := by decide +kernel
theorem dX6_findJoined_26 : decode cX6_findJoined 26 = .ok (.iload_n 1, 1) := by decide +kernel
theorem dX6_findJoined_27 : decode cX6_findJoined 27 = .ok (.imul, 1) := by decide +kernel
theorem dX6_findJoined_28 : decode cX6_findJoined 28 = .ok (.iload_n 2, 1) := by decide +kernel
theorem dX6_findJoined_29 : decode cX6_findJoined 29 = .ok (.iadd, 1) := by decide +kernel
theorem dX6_findJoined_30 : decode cX6_findJoined 30 = .ok (.aload_n 0, 1) := by decide +kernel
theorem dX6_findJoined_31 : decode cX6_findJoined 31 = .ok (.iload_n 1, 1) := by decide +kernel
theorem dX6_findJoined_32 : decode cX6_findJoined 32 = .ok (.iload_n 2, 1) := by decide +kernel
theorem dX6_findJoined_33 : decode cX6_findJoined 33 = .ok (.invokevirtual 219, 3) := by decide +kernel
theorem dX6_findJoined_36 : decode cX6_findJoined 36 = .ok (.iastore, 1) := by decide +kernel
theorem dX6_findJoined_37 : decode cX6_findJoined 37 = .ok (.iinc 2 1, 3) := by decide +kernel
theorem dX6_findJoined_40 : decode cX6_findJoined 40 = .ok (.goto (-28), 3) := by decide +kernel
theorem dX6_findJoined_43 : decode cX6_findJoined 43 = .ok (.iinc 1 1, 3) := by decide +kernel
theorem dX6_findJoined_46 : decode cX6_findJoined 46 = .ok (.goto (-44), 3) := by decide +kernel
theorem dX6_findJoined_49 : decode cX6_findJoined 49 = .ok (.iconst 0, 1) := by decide +kernel
theorem dX6_findJoined_50 : decode cX6_findJoined 50 = .ok (.istore_n 1, 1) := by decide +kernel
theorem dX6_findJoined_51 : decode cX6_findJoined 51 = .ok (.iload_n 1, 1) := by decide +kernel
theorem dX6_findJoined_52 : decode cX6_findJoined 52 = .ok (.sipush 4096, 3) := by decide +kernel
theorem dX6_findJoined_55 : decode cX6_findJoined 55 = .ok (.if_icmp .ge 25, 3) := by decide +kernel
theorem dX6_findJoined_58 : decode cX6_findJoined 58 = .ok (.aload_n 0, 1) := by decide +kernel
