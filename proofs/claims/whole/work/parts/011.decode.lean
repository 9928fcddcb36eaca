theorem dX0_init_0 : decode cX0_init 0 = .ok (.aload_n 0, 1) := by decide +kernel
theorem dX0_init_1 : decode cX0_init 1 = .ok (.invokespecial 5, 3) := by decide +kernel
theorem dX0_init_4 : decode cX0_init 4 = .ok (.aload_n 0, 1) := by decide +kernel
theorem dX0_init_5 : decode cX0_init 5 = .ok (.bipush 40, 2) := by decide +kernel
theorem dX0_init_7 : decode cX0_init 7 = .ok (.newarray .int, 2) := by decide +kernel
theorem dX0_init_9 : decode cX0_init 9 = .ok (.putfield 11, 3) := by decide +kernel
theorem dX0_init_12 : decode cX0_init 12 = .ok (.aload_n 0, 1) := by decide +kernel
theorem dX0_init_13 : decode cX0_init 13 = .ok (.bipush 40, 2) := by decide +kernel
theorem dX0_init_15 : decode cX0_init 15 = .ok (.newarray .int, 2) := by decide +kernel
theorem dX0_init_17 : decode cX0_init 17 = .ok (.putfield 15, 3) := by decide +kernel
theorem dX0_init_20 : decode cX0_init 20 = .ok (.aload_n 0, 1) := by decide +kernel
theorem dX0_init_21 : decode cX0_init 21 = .ok (.bipush 40, 2) := by decide +kernel
theorem dX0_init_23 : decode cX0_init 23 = .ok (.newarray .int, 2) := by decide +kernel
theorem dX0_init_25 : decode cX0_init 25 = .ok (.putfield 18, 3) := by decide +kernel
theorem dX0_init_28 : decode cX0_init 28 = .ok (.aload_n 0, 1) := by decide +kernel
theorem dX0_init_29 : decode cX0_init 29 = .ok (.iconst 0, 1) := by decide +kernel
theorem dX0_init_30 : decode cX0_init 30 = .ok (.putfield 21, 3) := by decide +kernel
theorem dX0_init_33 : decode cX0_init 33 = .ok (.return_, 1) := by decide +kernel
theorem dX0_addLot_0 : decode cX0_addLot 0 = .ok (.aload_n 0, 1) := by decide +kernel
theorem dX0_addLot_1 : decode cX0_addLot 1 = .ok (.getfield 21, 3) := by decide +kernel
theorem dX0_addLot_4 : decode cX0_addLot 4 = .ok (.bipush 40, 2) := by decide +kernel
theorem dX0_addLot_6 : decode cX0_addLot 6 = .ok (.if_icmp .lt 6, 3) := by decide +kernel
theorem dX0_addLot_9 : decode cX0_addLot 9 = .ok (.bipush (-4), 2) := by decide +kernel
theorem dX0_addLot_11 : decode cX0_addLot 11 = .ok (.ireturn, 1) := by decide +kernel
theorem dX0_addLot_12 : decode cX0_addLot 12 = .ok (.aload_n 0, 1) := by decide +kernel
theorem dX0_addLot_13 : decode cX0_addLot 13 = .ok (.getfield 11, 3) := by decide +kernel
theorem dX0_addLot_16 : decode cX0_addLot 16 = .ok (.aload_n 0, 1) := by decide +kernel
theorem dX0_addLot_17 : decode cX0_addLot 17 = .ok (.getfield 21, 3) := by decide +kernel
theorem dX0_addLot_20 : decode cX0_addLot 20 = .ok (.iload_n 1, 1) := by decide +kernel
theorem dX0_addLot_21 : decode cX0_addLot 21 = .ok (.iastore, 1) := by decide +kernel
theorem dX0_addLot_22 : decode cX0_addLot 22 = .ok (.aload_n 0, 1) := by decide +kernel
theorem dX0_addLot_23 : decode cX0_addLot 23 = .ok (.getfield 15, 3) := by decide +kernel
theorem dX0_addLot_26 : decode cX0_addLot 26 = .ok (.aload_n 0, 1) := by decide +kernel
theorem dX0_addLot_27 : decode cX0_addLot 27 = .ok (.getfield 21, 3) := by decide +kernel
theorem dX0_addLot_30 : decode cX0_addLot 30 = .ok (.iload_n 2, 1) := by decide +kernel
theorem dX0_addLot_31 : decode cX0_addLot 31 = .ok (.iastore, 1) := by decide +kernel
theorem dX0_addLot_32 : decode cX0_addLot 32 = .ok (.aload_n 0, 1) := by decide +kernel
theorem dX0_addLot_33 : decode cX0_addLot 33 = .ok (.getfield 18, 3) := by decide +kernel
theorem dX0_addLot_36 : decode cX0_addLot 36 = .ok (.aload_n 0, 1) := by decide +kernel
theorem dX0_addLot_37 : decode cX0_addLot 37 = .ok (.getfield 21, 3) := by decide +kernel
theorem dX0_addLot_40 : decode cX0_addLot 40 = .ok (.iload_n 3, 1) := by decide +kernel
theorem dX0_addLot_41 : decode cX0_addLot 41 = .ok (.iastore, 1) := by decide +kernel
theorem dX0_addLot_42 : decode cX0_addLot 42 = .ok (.aload_n 0, 1) := by decide +kernel
theorem dX0_addLot_43 : decode cX0_addLot 43 = .ok (.dup, 1) := by decide +kernel
theorem dX0_addLot_44 : decode cX0_addLot 44 = .ok (.getfield 21, 3) := by decide +kernel
theorem dX0_addLot_47 : decode cX0_addLot 47 = .ok (.iconst 1, 1) := by decide +kernel
theorem dX0_addLot_48 : decode cX0_addLot 48 = .ok (.iadd, 1) := by decide +kernel
theorem dX0_addLot_49 : decode cX0_addLot 49 = .ok (.putfield 21, 3) := by decide +kernel
theorem dX0_addLot_52 : decode cX0_addLot 52 = .ok (.aload_n 0, 1) := by decide +kernel
theorem dX0_addLot_53 : decode cX0_addLot 53 = .ok (.getfield 21, 3) := by decide +kernel
theorem dX0_addLot_56 : decode cX0_addLot 56 = .ok (.iconst 1, 1) := by decide +kernel
theorem dX0_addLot_57 : decode cX0_addLot 57 = .ok (.isub, 1) := by decide +kernel
theorem dX0_addLot_58 : decode cX0_addLot 58 = .ok (.ireturn, 1) := by decide +kernel
theorem dX0_lotCount_0 : decode cX0_lotCount 0 = .ok (.aload_n 0, 1) := by decide +kernel
theorem dX0_lotCount_1 : decode cX0_lotCount 1 = .ok (.getfield 21, 3) := by decide +kernel
theorem dX0_lotCount_4 : decode cX0_lotCount 4 = .ok (.ireturn, 1) := by decide +kernel
theorem dX0_tally_0 : decode cX0_tally 0 = .ok (.iconst 1, 1) := by decide +kernel
theorem dX0_tally_1 : decode cX0_tally 1 = .ok (.iload_n 1, 1) := by decide +kernel
theorem dX0_tally_2 : decode cX0_tally 2 = .ok (.ishl, 1) := by decide +kernel
theorem dX0_tally_3 : decode cX0_tally 3 = .ok (.iconst 1, 1) := by decide +kernel
theorem dX0_tally_4 : decode cX0_tally 4 = .ok (.iload_n 2, 1) := by decide +kernel
theorem dX0_tally_5 : decode cX0_tally 5 = .ok (.ishl, 1) := by decide +kernel
theorem dX0_tally_6 : decode cX0_tally 6 = .ok (.ior, 1) := by decide +kernel
theorem dX0_tally_7 : decode cX0_tally 7 = .ok (.istore 4, 2) := by decide +kernel
theorem dX0_tally_9 : decode cX0_tally 9 = .ok (.iload_n 3, 1) := by decide +kernel
theorem dX0_tally_10 : decode cX0_tally 10 = .ok (.iconst 1, 1) := by decide +kernel
theorem dX0_tally_11 : decode cX0_tally 11 = .ok (.iand, 1) := by decide +kernel
theorem dX0_tally_12 : decode cX0_tally 12 = .ok (.iload_n 1, 1) := by decide +kernel
theorem dX0_tally_13 : decode cX0_tally 13 = .ok (.ishl, 1) := by decide +kernel
theorem dX0_tally_14 : decode cX0_tally 14 = .ok (.iload_n 3, 1) := by decide +kernel
theorem dX0_tally_15 : decode cX0_tally 15 = .ok (.iconst 1, 1) := by decide +kernel
theorem dX0_tally_16 : decode cX0_tally 16 = .ok (.ishr, 1) := by decide +kernel
theorem dX0_tally_17 : decode cX0_tally 17 = .ok (.iconst 1, 1) := by decide +kernel
theorem dX0_tally_18 : decode cX0_tally 18 = .ok (.iand, 1) := by decide +kernel
theorem dX0_tally_19 : decode cX0_tally 19 = .ok (.iload_n 2, 1) := by decide +kernel
theorem dX0_tally_20 : decode cX0_tally 20 = .ok (.ishl, 1) := by decide +kernel
theorem dX0_tally_21 : decode cX0_tally 21 = .ok (.ior, 1) := by decide +kernel
theorem dX0_tally_22 : decode cX0_tally 22 = .ok (.istore 5, 2) := by decide +kernel
theorem dX0_tally_24 : decode cX0_tally 24 = .ok (.iconst 0, 1) := by decide +kernel
theorem dX0_tally_25 : decode cX0_tally 25 = .ok (.istore 6, 2) := by decide +kernel
theorem dX0_tally_27 : decode cX0_tally 27 = .ok (.iconst 0, 1) := by decide +kernel
theorem dX0_tally_28 : decode cX0_tally 28 = .ok (.istore 7, 2) := by decide +kernel
theorem dX0_tally_30 : decode cX0_tally 30 = .ok (.iload 7, 2) := by decide +kernel
theorem dX0_tally_32 : decode cX0_tally 32 = .ok (.aload_n 0, 1) := by decide +kernel
theorem dX0_tally_33 : decode cX0_tally 33 = .ok (.getfield 21, 3) := by decide +kernel
theorem dX0_tally_36 : decode cX0_tally 36 = .ok (.if_icmp .ge 42, 3) := by decide +kernel
theorem dX0_tally_39 : decode cX0_tally 39 = .ok (.aload_n 0, 1) := by decide +kernel
theorem dX0_tally_40 : decode cX0_tally 40 = .ok (.getfield 11, 3) := by decide +kernel
theorem dX0_tally_43 : decode cX0_tally 43 = .ok (.iload 7, 2) := by decide +kernel
theorem dX0_tally_45 : decode cX0_tally 45 = .ok (.iaload, 1) := by decide +kernel
theorem dX0_tally_46 : decode cX0_tally 46 = .ok (.iload 4, 2) := by decide +kernel
theorem dX0_tally_48 : decode cX0_tally 48 = .ok (.iand, 1) := by decide +kernel
theorem dX0_tally_49 : decode cX0_tally 49 = .ok (.iload 4, 2) := by decide +kernel
theorem dX0_tally_51 : decode cX0_tally 51 = .ok (.if_icmp .ne 21, 3) := by decide +kernel
theorem dX0_tally_54 : decode cX0_tally 54 = .ok (.aload_n 0, 1) := by decide +kernel
theorem dX0_tally_55 : decode cX0_tally 55 = .ok (.getfield 15, 3) := by decide +kernel
theorem dX0_tally_58 : decode cX0_tally 58 = .ok (.iload 7, 2) := by decide +kernel
theorem dX0_tally_60 : decode cX0_tally 60 = .ok (.iaload, 1) := by decide +kernel
theorem dX0_tally_61 : decode cX0_tally 61 = .ok (.iload 5, 2) := by decide +kernel
theorem dX0_tally_63 : decode cX0_tally 63 = .ok (.iand, 1) := by decide +kernel
theorem dX0_tally_64 : decode cX0_tally 64 = .ok (.iload 5, 2) := by decide +kernel
theorem dX0_tally_66 : decode cX0_tally 66 = .ok (.if_icmp .ne 6, 3) := by decide +kernel
theorem dX0_tally_69 : decode cX0_tally 69 = .ok (.iinc 6 1, 3) := by decide +kernel
theorem dX0_tally_72 : decode cX0_tally 72 = .ok (.iinc 7 1, 3) := by decide +kernel
theorem dX0_tally_75 : decode cX0_tally 75 = .ok (.goto (-45), 3) := by decide +kernel
theorem dX0_tally_78 : decode cX0_tally 78 = .ok (.iload 6, 2) := by decide +kernel
theorem dX0_tally_80 : decode cX0_tally 80 = .ok (.ireturn, 1) := by decide +kernel
set_option maxRecDepth 20000 in
theorem ggX0_allWays_X0_tally : GoodIn wsX0_allWays wsX0_tally := goodIn_r _ [5, 6, 7, 8, 12, 13, 14, 15] (by decide +kernel) (by decide +kernel)
set_option maxRecDepth 20000 in
theorem gX0_allWays_X0_tally : GoodIn wsX0_allWays (wsV RX0 25 RX0 yX0_tally wsX0_tally) := goodIn_app (goodIn_of _ (by decide +kernel)) ggX0_allWays_X0_tally
set_option maxRecDepth 20000 in
theorem ggX0_allWays_X0_choose : GoodIn wsX0_allWays wsX0_choose := goodIn_r _ [11] (by decide +kernel) (by decide +kernel)
set_option maxRecDepth 20000 in
theorem gX0_allWays_X0_choose : GoodIn wsX0_allWays (va_wsS RX0 29 yX0_choose wsX0_choose) := goodIn_app (goodIn_of _ (by decide +kernel)) ggX0_allWays_X0_choose
theorem dX0_allWays_0 : decode cX0_allWays 0 = .ok (.aload_n 0, 1) := by decide +kernel
theorem dX0_allWays_1 : decode cX0_allWays 1 = .ok (.iload_n 1, 1) := by decide +kernel
theorem dX0_allWays_2 : decode cX0_allWays 2 = .ok (.iload_n 2, 1) := by decide +kernel
theorem dX0_allWays_3 : decode cX0_allWays 3 = .ok (.iconst 0, 1) := by decide +kernel
theorem dX0_allWays_4 : decode cX0_allWays 4 = .ok (.invokevirtual 25, 3) := by decide +kernel
theorem dX0_allWays_7 : decode cX0_allWays 7 = .ok (.aload_n 0, 1) := by decide +kernel
theorem dX0_allWays_8 : decode cX0_allWays 8 = .ok (.iload_n 1, 1) := by decide +kernel
theorem dX0_allWays_9 : decode cX0_allWays 9 = .ok (.iload_n 2, 1) := by decide +kernel
theorem dX0_allWays_10 : decode cX0_allWays 10 = .ok (.iconst 2, 1) := by decide +kernel
theorem dX0_allWays_11 : decode cX0_allWays 11 = .ok (.invokevirtual 25, 3) := by decide +kernel
theorem dX0_allWays_14 : decode cX0_allWays 14 = .ok (.invokestatic 29, 3) := by decide +kernel
theorem dX0_allWays_17 : decode cX0_allWays 17 = .ok (.lreturn, 1) := by decide +kernel
set_option maxRecDepth 20000 in
theorem ggX0_waysAsShy_X0_tally : GoodIn wsX0_waysAsShy wsX0_tally := goodIn_r _ [5, 6, 7, 8, 12, 13, 14, 15] (by decide +kernel) (by decide +kernel)
set_option maxRecDepth 20000 in
theorem gX0_waysAsShy_X0_tally : GoodIn wsX0_waysAsShy (wsV RX0 25 RX0 yX0_tally wsX0_tally) := goodIn_app (goodIn_of _ (by decide +kernel)) ggX0_waysAsShy_X0_tally
set_option maxRecDepth 20000 in
theorem ggX0_waysAsShy_X0_choose : GoodIn wsX0_waysAsShy wsX0_choose := goodIn_r _ [11] (by decide +kernel) (by decide +kernel)
set_option maxRecDepth 20000 in
theorem gX0_waysAsShy_X0_choose : GoodIn wsX0_waysAsShy (va_wsS RX0 29 yX0_choose wsX0_choose) := goodIn_app (goodIn_of _ (by decide +kernel)) ggX0_waysAsShy_X0_choose
theorem dX0_waysAsShy_0 : decode cX0_waysAsShy 0 = .ok (.aload_n 0, 1) := by decide +kernel
theorem dX0_waysAsShy_1 : decode cX0_waysAsShy 1 = .ok (.iload_n 1, 1) := by decide +kernel
theorem dX0_waysAsShy_2 : decode cX0_waysAsShy 2 = .ok (.iload_n 2, 1) := by decide +kernel
theorem dX0_waysAsShy_3 : decode cX0_waysAsShy 3 = .ok (.iconst 0, 1) := by decide +kernel
theorem dX0_waysAsShy_4 : decode cX0_waysAsShy 4 = .ok (.invokevirtual 25, 3) := by decide +kernel
theorem dX0_waysAsShy_7 : decode cX0_waysAsShy 7 = .ok (.istore_n 3, 1) := by decide +kernel
theorem dX0_waysAsShy_8 : decode cX0_waysAsShy 8 = .ok (.aload_n 0, 1) := by decide +kernel
theorem dX0_waysAsShy_9 : decode cX0_waysAsShy 9 = .ok (.iload_n 1, 1) := by decide +kernel
theorem dX0_waysAsShy_10 : decode cX0_waysAsShy 10 = .ok (.iload_n 2, 1) := by decide +kernel
theorem dX0_waysAsShy_11 : decode cX0_waysAsShy 11 = .ok (.iconst 1, 1) := by decide +kernel
theorem dX0_waysAsShy_12 : decode cX0_waysAsShy 12 = .ok (.invokevirtual 25, 3) := by decide +kernel
theorem dX0_waysAsShy_15 : decode cX0_waysAsShy 15 = .ok (.istore 4, 2) := by decide +kernel
theorem dX0_waysAsShy_17 : decode cX0_waysAsShy 17 = .ok (.aload_n 0, 1) := by decide +kernel
theorem dX0_waysAsShy_18 : decode cX0_waysAsShy 18 = .ok (.iload_n 1, 1) := by decide +kernel
theorem dX0_waysAsShy_19 : decode cX0_waysAsShy 19 = .ok (.iload_n 2, 1) := by decide +kernel
theorem dX0_waysAsShy_20 : decode cX0_waysAsShy 20 = .ok (.iconst 2, 1) := by decide +kernel
theorem dX0_waysAsShy_21 : decode cX0_waysAsShy 21 = .ok (.invokevirtual 25, 3) := by decide +kernel
theorem dX0_waysAsShy_24 : decode cX0_waysAsShy 24 = .ok (.istore 5, 2) := by decide +kernel
theorem dX0_waysAsShy_26 : decode cX0_waysAsShy 26 = .ok (.aload_n 0, 1) := by decide +kernel
theorem dX0_waysAsShy_27 : decode cX0_waysAsShy 27 = .ok (.iload_n 1, 1) := by decide +kernel
theorem dX0_waysAsShy_28 : decode cX0_waysAsShy 28 = .ok (.iload_n 2, 1) := by decide +kernel
theorem dX0_waysAsShy_29 : decode cX0_waysAsShy 29 = .ok (.iconst 3, 1) := by decide +kernel
theorem dX0_waysAsShy_30 : decode cX0_waysAsShy 30 = .ok (.invokevirtual 25, 3) := by decide +kernel
theorem dX0_waysAsShy_33 : decode cX0_waysAsShy 33 = .ok (.istore 6, 2) := by decide +kernel
theorem dX0_waysAsShy_35 : decode cX0_waysAsShy 35 = .ok (.lconst 0, 1) := by decide +kernel
theorem dX0_waysAsShy_36 : decode cX0_waysAsShy 36 = .ok (.lstore 7, 2) := by decide +kernel
theorem dX0_waysAsShy_38 : decode cX0_waysAsShy 38 = .ok (.iconst 0, 1) := by decide +kernel
theorem dX0_waysAsShy_39 : decode cX0_waysAsShy 39 = .ok (.istore 9, 2) := by decide +kernel
theorem dX0_waysAsShy_41 : decode cX0_waysAsShy 41 = .ok (.iload 9, 2) := by decide +kernel
theorem dX0_waysAsShy_43 : decode cX0_waysAsShy 43 = .ok (.iload 6, 2) := by decide +kernel
theorem dX0_waysAsShy_45 : decode cX0_waysAsShy 45 = .ok (.if_icmp .gt 34, 3) := by decide +kernel
theorem dX0_waysAsShy_48 : decode cX0_waysAsShy 48 = .ok (.lload 7, 2) := by decide +kernel
theorem dX0_waysAsShy_50 : decode cX0_waysAsShy 50 = .ok (.iload 4, 2) := by decide +kernel
theorem dX0_waysAsShy_52 : decode cX0_waysAsShy 52 = .ok (.iload 9, 2) := by decide +kernel
theorem dX0_waysAsShy_54 : decode cX0_waysAsShy 54 = .ok (.invokestatic 29, 3) := by decide +kernel
theorem dX0_waysAsShy_57 : decode cX0_waysAsShy 57 = .ok (.iload_n 3, 1) := by decide +kernel
theorem dX0_waysAsShy_58 : decode cX0_waysAsShy 58 = .ok (.iload 4, 2) := by decide +kernel
theorem dX0_waysAsShy_60 : decode cX0_waysAsShy 60 = .ok (.isub, 1) := by decide +kernel
theorem dX0_waysAsShy_61 : decode cX0_waysAsShy 61 = .ok (.iload 5, 2) := by decide +kernel
theorem dX0_waysAsShy_63 : decode cX0_waysAsShy 63 = .ok (.iload 9, 2) := by decide +kernel
theorem dX0_waysAsShy_65 : decode cX0_waysAsShy 65 = .ok (.isub, 1) := by decide +kernel
theorem dX0_waysAsShy_66 : decode cX0_waysAsShy 66 = .ok (.invokestatic 29, 3) := by decide +kernel
theorem dX0_waysAsShy_69 : decode cX0_waysAsShy 69 = .ok (.lmul, 1) := by decide +kernel
theorem dX0_waysAsShy_70 : decode cX0_waysAsShy 70 = .ok (.ladd, 1) := by decide +kernel
theorem dX0_waysAsShy_71 : decode cX0_waysAsShy 71 = .ok (.lstore 7, 2) := by decide +kernel
theorem dX0_waysAsShy_73 : decode cX0_waysAsShy 73 = .ok (.iinc 9 1, 3) := by decide +kernel
theorem dX0_waysAsShy_76 : decode cX0_waysAsShy 76 = .ok (.goto (-35), 3) := by decide +kernel
theorem dX0_waysAsShy_79 : decode cX0_waysAsShy 79 = .ok (.lload 7, 2) := by decide +kernel
theorem dX0_waysAsShy_81 : decode cX0_waysAsShy 81 = .ok (.lreturn, 1) := by decide +kernel
set_option maxRecDepth 20000 in
theorem ggX0_shyestTwo_X0_waysAsShy : GoodIn wsX0_shyestTwo wsX0_waysAsShy := goodIn_r _ [5, 6, 7, 8, 4, 9, 10, 11, 12, 13, 14, 15, 24, 25, 26, 27] (by decide +kernel) (by decide +kernel)
set_option maxRecDepth 20000 in
theorem gX0_shyestTwo_X0_waysAsShy : GoodIn wsX0_shyestTwo (wsV RX0 33 RX0 yX0_waysAsShy wsX0_waysAsShy) := goodIn_app (goodIn_of _ (by decide +kernel)) ggX0_shyestTwo_X0_waysAsShy
set_option maxRecDepth 20000 in
theorem ggX0_shyestTwo_X0_allWays : GoodIn wsX0_shyestTwo wsX0_allWays := goodIn_r _ [19, 6, 7, 8, 4, 9, 10, 11, 12, 13, 14, 15, 24, 25, 26, 27] (by decide +kernel) (by decide +kernel)
set_option maxRecDepth 20000 in
theorem gX0_shyestTwo_X0_allWays : GoodIn wsX0_shyestTwo (wsV RX0 36 RX0 yX0_allWays wsX0_allWays) := goodIn_app (goodIn_of _ (by decide +kernel)) ggX0_shyestTwo_X0_allWays
set_option maxRecDepth 20000 in
theorem ggX0_shyestTwo_X0_productBelow : GoodIn wsX0_shyestTwo wsX0_productBelow := goodIn_r _ [22, 23] (by decide +kernel) (by decide +kernel)
set_option maxRecDepth 20000 in
theorem gX0_shyestTwo_X0_productBelow : GoodIn wsX0_shyestTwo (va_wsS RX0 39 yX0_productBelow wsX0_productBelow) := goodIn_app (goodIn_of _ (by decide +kernel)) ggX0_shyestTwo_X0_productBelow
theorem dX0_shyestTwo_0 : decode cX0_shyestTwo 0 = .ok (.iconst 0, 1) := by decide +kernel
theorem dX0_shyestTwo_1 : decode cX0_shyestTwo 1 = .ok (.istore_n 1, 1) := by decide +kernel
theorem dX0_shyestTwo_2 : decode cX0_shyestTwo 2 = .ok (.iconst 1, 1) := by decide +kernel
theorem dX0_shyestTwo_3 : decode cX0_shyestTwo 3 = .ok (.istore_n 2, 1) := by decide +kernel
theorem dX0_shyestTwo_4 : decode cX0_shyestTwo 4 = .ok (.lconst 1, 1) := by decide +kernel
theorem dX0_shyestTwo_5 : decode cX0_shyestTwo 5 = .ok (.lstore_n 3, 1) := by decide +kernel
theorem dX0_shyestTwo_6 : decode cX0_shyestTwo 6 = .ok (.lconst 1, 1) := by decide +kernel
theorem dX0_shyestTwo_7 : decode cX0_shyestTwo 7 = .ok (.lstore 5, 2) := by decide +kernel
theorem dX0_shyestTwo_9 : decode cX0_shyestTwo 9 = .ok (.iconst 0, 1) := by decide +kernel
theorem dX0_shyestTwo_10 : decode cX0_shyestTwo 10 = .ok (.istore 7, 2) := by decide +kernel
theorem dX0_shyestTwo_12 : decode cX0_shyestTwo 12 = .ok (.iload 7, 2) := by decide +kernel
theorem dX0_shyestTwo_14 : decode cX0_shyestTwo 14 = .ok (.bipush 8, 2) := by decide +kernel
theorem dX0_shyestTwo_16 : decode cX0_shyestTwo 16 = .ok (.if_icmp .ge 74, 3) := by decide +kernel
theorem dX0_shyestTwo_19 : decode cX0_shyestTwo 19 = .ok (.iload 7, 2) := by decide +kernel
theorem dX0_shyestTwo_21 : decode cX0_shyestTwo 21 = .ok (.iconst 1, 1) := by decide +kernel
theorem dX0_shyestTwo_22 : decode cX0_shyestTwo 22 = .ok (.iadd, 1) := by decide +kernel
theorem dX0_shyestTwo_23 : decode cX0_shyestTwo 23 = .ok (.istore 8, 2) := by decide +kernel
theorem dX0_shyestTwo_25 : decode cX0_shyestTwo 25 = .ok (.iload 8, 2) := by decide +kernel
theorem dX0_shyestTwo_27 : decode cX0_shyestTwo 27 = .ok (.bipush 8, 2) := by decide +kernel
theorem dX0_shyestTwo_29 : decode cX0_shyestTwo 29 = .ok (.if_icmp .ge 55, 3) := by decide +kernel
theorem dX0_shyestTwo_32 : decode cX0_shyestTwo 32 = .ok (.aload_n 0, 1) := by decide +kernel
theorem dX0_shyestTwo_33 : decode cX0_shyestTwo 33 = .ok (.iload 7, 2) := by decide +kernel
theorem dX0_shyestTwo_35 : decode cX0_shyestTwo 35 = .ok (.iload 8, 2) := by decide +kernel
theorem dX0_shyestTwo_37 : decode cX0_shyestTwo 37 = .ok (.invokevirtual 33, 3) := by decide +kernel
theorem dX0_shyestTwo_40 : decode cX0_shyestTwo 40 = .ok (.lstore 9, 2) := by decide +kernel
theorem dX0_shyestTwo_42 : decode cX0_shyestTwo 42 = .ok (.aload_n 0, 1) := by decide +kernel
theorem dX0_shyestTwo_43 : decode cX0_shyestTwo 43 = .ok (.iload 7, 2) := by decide +kernel
theorem dX0_shyestTwo_45 : decode cX0_shyestTwo 45 = .ok (.iload 8, 2) := by decide +kernel
theorem dX0_shyestTwo_47 : decode cX0_shyestTwo 47 = .ok (.invokevirtual 36, 3) := by decide +kernel
theorem dX0_shyestTwo_50 : decode cX0_shyestTwo 50 = .ok (.lstore 11, 2) := by decide +kernel
theorem dX0_shyestTwo_52 : decode cX0_shyestTwo 52 = .ok (.lload 9, 2) := by decide +kernel
theorem dX0_shyestTwo_54 : decode cX0_shyestTwo 54 = .ok (.lload 5, 2) := by decide +kernel
theorem dX0_shyestTwo_56 : decode cX0_shyestTwo 56 = .ok (.lload_n 3, 1) := by decide +kernel
theorem dX0_shyestTwo_57 : decode cX0_shyestTwo 57 = .ok (.lload 11, 2) := by decide +kernel
theorem dX0_shyestTwo_59 : decode cX0_shyestTwo 59 = .ok (.invokestatic 39, 3) := by decide +kernel
theorem dX0_shyestTwo_62 : decode cX0_shyestTwo 62 = .ok (.ifCond .eq 16, 3) := by decide +kernel
theorem dX0_shyestTwo_65 : decode cX0_shyestTwo 65 = .ok (.iload 7, 2) := by decide +kernel
theorem dX0_shyestTwo_67 : decode cX0_shyestTwo 67 = .ok (.istore_n 1, 1) := by decide +kernel
theorem dX0_shyestTwo_68 : decode cX0_shyestTwo 68 = .ok (.iload 8, 2) := by decide +kernel
theorem dX0_shyestTwo_70 : decode cX0_shyestTwo 70 = .ok (.istore_n 2, 1) := by decide +kernel
theorem dX0_shyestTwo_71 : decode cX0_shyestTwo 71 = .ok (.lload 9, 2) := by decide +kernel
theorem dX0_shyestTwo_73 : decode cX0_shyestTwo 73 = .ok (.lstore_n 3, 1) := by decide +kernel
theorem dX0_shyestTwo_74 : decode cX0_shyestTwo 74 = .ok (.lload 11, 2) := by decide +kernel
theorem dX0_shyestTwo_76 : decode cX0_shyestTwo 76 = .ok (.lstore 5, 2) := by decide +kernel
theorem dX0_shyestTwo_78 : decode cX0_shyestTwo 78 = .ok (.iinc 8 1, 3) := by decide +kernel
theorem dX0_shyestTwo_81 : decode cX0_shyestTwo 81 = .ok (.goto (-56), 3) := by decide +kernel
theorem dX0_shyestTwo_84 : decode cX0_shyestTwo 84 = .ok (.iinc 7 1, 3) := by decide +kernel
theorem dX0_shyestTwo_87 : decode cX0_shyestTwo 87 = .ok (.goto (-75), 3) := by decide +kernel
theorem dX0_shyestTwo_90 : decode cX0_shyestTwo 90 = .ok (.bipush 8, 2) := by decide +kernel
theorem dX0_shyestTwo_92 : decode cX0_shyestTwo 92 = .ok (.iload_n 1, 1) := by decide +kernel
theorem dX0_shyestTwo_93 : decode cX0_shyestTwo 93 = .ok (.imul, 1) := by decide +kernel
theorem dX0_shyestTwo_94 : decode cX0_shyestTwo 94 = .ok (.iload_n 2, 1) := by decide +kernel
theorem dX0_shyestTwo_95 : decode cX0_shyestTwo 95 = .ok (.iadd, 1) := by decide +kernel
theorem dX0_shyestTwo_96 : decode cX0_shyestTwo 96 = .ok (.ireturn, 1) := by decide +kernel
theorem dX0_choose_0 : decode cX0_choose 0 = .ok (.iload_n 1, 1) := by decide +kernel
theorem dX0_choose_1 : decode cX0_choose 1 = .ok (.ifCond .lt 8, 3) := by decide +kernel
theorem dX0_choose_4 : decode cX0_choose 4 = .ok (.iload_n 1, 1) := by decide +kernel
theorem dX0_choose_5 : decode cX0_choose 5 = .ok (.iload_n 0, 1) := by decide +kernel
theorem dX0_choose_6 : decode cX0_choose 6 = .ok (.if_icmp .le 5, 3) := by decide +kernel
theorem dX0_choose_9 : decode cX0_choose 9 = .ok (.lconst 0, 1) := by decide +kernel
theorem dX0_choose_10 : decode cX0_choose 10 = .ok (.lreturn, 1) := by decide +kernel
theorem dX0_choose_11 : decode cX0_choose 11 = .ok (.lconst 1, 1) := by decide +kernel
theorem dX0_choose_12 : decode cX0_choose 12 = .ok (.lstore_n 2, 1) := by decide +kernel
theorem dX0_choose_13 : decode cX0_choose 13 = .ok (.iconst 1, 1) := by decide +kernel
theorem dX0_choose_14 : decode cX0_choose 14 = .ok (.istore 4, 2) := by decide +kernel
theorem dX0_choose_16 : decode cX0_choose 16 = .ok (.iload 4, 2) := by decide +kernel
theorem dX0_choose_18 : decode cX0_choose 18 = .ok (.iload_n 1, 1) := by decide +kernel
theorem dX0_choose_19 : decode cX0_choose 19 = .ok (.if_icmp .gt 23, 3) := by decide +kernel
theorem dX0_choose_22 : decode cX0_choose 22 = .ok (.lload_n 2, 1) := by decide +kernel
theorem dX0_choose_23 : decode cX0_choose 23 = .ok (.iload_n 0, 1) := by decide +kernel
theorem dX0_choose_24 : decode cX0_choose 24 = .ok (.iload_n 1, 1) := by decide +kernel
theorem dX0_choose_25 : decode cX0_choose 25 = .ok (.isub, 1) := by decide +kernel
theorem dX0_choose_26 : decode cX0_choose 26 = .ok (.iload 4, 2) := by decide +kernel
theorem dX0_choose_28 : decode cX0_choose 28 = .ok (.iadd, 1) := by decide +kernel
theorem dX0_choose_29 : decode cX0_choose 29 = .ok (.i2l, 1) := by decide +kernel
theorem dX0_choose_30 : decode cX0_choose 30 = .ok (.lmul, 1) := by decide +kernel
theorem dX0_choose_31 : decode cX0_choose 31 = .ok (.iload 4, 2) := by decide +kernel
theorem dX0_choose_33 : decode cX0_choose 33 = .ok (.i2l, 1) := by decide +kernel
theorem dX0_choose_34 : decode cX0_choose 34 = .ok (.ldiv, 1) := by decide +kernel
theorem dX0_choose_35 : decode cX0_choose 35 = .ok (.lstore_n 2, 1) := by decide +kernel
theorem dX0_choose_36 : decode cX0_choose 36 = .ok (.iinc 4 1, 3) := by decide +kernel
theorem dX0_choose_39 : decode cX0_choose 39 = .ok (.goto (-23), 3) := by decide +kernel
theorem dX0_choose_42 : decode cX0_choose 42 = .ok (.lload_n 2, 1) := by decide +kernel
theorem dX0_choose_43 : decode cX0_choose 43 = .ok (.lreturn, 1) := by decide +kernel
theorem dX0_productBelow_0 : decode cX0_productBelow 0 = .ok (.lload_n 0, 1) := by decide +kernel
theorem dX0_productBelow_1 : decode cX0_productBelow 1 = .ok (.bipush 20, 2) := by decide +kernel
theorem dX0_productBelow_3 : decode cX0_productBelow 3 = .ok (.lshr, 1) := by decide +kernel
theorem dX0_productBelow_4 : decode cX0_productBelow 4 = .ok (.lload_n 2, 1) := by decide +kernel
theorem dX0_productBelow_5 : decode cX0_productBelow 5 = .ok (.lmul, 1) := by decide +kernel
theorem dX0_productBelow_6 : decode cX0_productBelow 6 = .ok (.lload_n 0, 1) := by decide +kernel
theorem dX0_productBelow_7 : decode cX0_productBelow 7 = .ok (.ldc2_w 43, 3) := by decide +kernel
theorem dX0_productBelow_10 : decode cX0_productBelow 10 = .ok (.land, 1) := by decide +kernel
theorem dX0_productBelow_11 : decode cX0_productBelow 11 = .ok (.lload_n 2, 1) := by decide +kernel
theorem dX0_productBelow_12 : decode cX0_productBelow 12 = .ok (.lmul, 1) := by decide +kernel
theorem dX0_productBelow_13 : decode cX0_productBelow 13 = .ok (.bipush 20, 2) := by decide +kernel
theorem dX0_productBelow_15 : decode cX0_productBelow 15 = .ok (.lshr, 1) := by decide +kernel
theorem dX0_productBelow_16 : decode cX0_productBelow 16 = .ok (.ladd, 1) := by decide +kernel
theorem dX0_productBelow_17 : decode cX0_productBelow 17 = .ok (.lstore 8, 2) := by decide +kernel
theorem dX0_productBelow_19 : decode cX0_productBelow 19 = .ok (.lload 4, 2) := by decide +kernel
theorem dX0_productBelow_21 : decode cX0_productBelow 21 = .ok (.bipush 20, 2) := by decide +kernel
theorem dX0_productBelow_23 : decode cX0_productBelow 23 = .ok (.lshr, 1) := by decide +kernel
theorem dX0_productBelow_24 : decode cX0_productBelow 24 = .ok (.lload 6, 2) := by decide +kernel
theorem dX0_productBelow_26 : decode cX0_productBelow 26 = .ok (.lmul, 1) := by decide +kernel
theorem dX0_productBelow_27 : decode cX0_productBelow 27 = .ok (.lload 4, 2) := by decide +kernel
theorem dX0_productBelow_29 : decode cX0_productBelow 29 = .ok (.ldc2_w 43, 3) := by decide +kernel
theorem dX0_productBelow_32 : decode cX0_productBelow 32 = .ok (.land, 1) := by decide +kernel
theorem dX0_productBelow_33 : decode cX0_productBelow 33 = .ok (.lload 6, 2) := by decide +kernel
theorem dX0_productBelow_35 : decode cX0_productBelow 35 = .ok (.lmul, 1) := by decide +kernel
theorem dX0_productBelow_36 : decode cX0_productBelow 36 = .ok (.bipush 20, 2) := by decide +kernel
theorem dX0_productBelow_38 : decode cX0_productBelow 38 = .ok (.lshr, 1) := by decide +kernel
theorem dX0_productBelow_39 : decode cX0_productBelow 39 = .ok (.ladd, 1) := by decide +kernel
theorem dX0_productBelow_40 : decode cX0_productBelow 40 = .ok (.lstore 10, 2) := by decide +kernel
theorem dX0_productBelow_42 : decode cX0_productBelow 42 = .ok (.lload 8, 2) := by decide +kernel
theorem dX0_productBelow_44 : decode cX0_productBelow 44 = .ok (.lload 10, 2) := by decide +kernel
theorem dX0_productBelow_46 : decode cX0_productBelow 46 = .ok (.lcmp, 1) := by decide +kernel
theorem dX0_productBelow_47 : decode cX0_productBelow 47 = .ok (.ifCond .eq 17, 3) := by decide +kernel
theorem dX0_productBelow_50 : decode cX0_productBelow 50 = .ok (.lload 8, 2) := by decide +kernel
theorem dX0_productBelow_52 : decode cX0_productBelow 52 = .ok (.lload 10, 2) := by decide +kernel
theorem dX0_productBelow_54 : decode cX0_productBelow 54 = .ok (.lcmp, 1) := by decide +kernel
theorem dX0_productBelow_55 : decode cX0_productBelow 55 = .ok (.ifCond .ge 7, 3) := by decide +kernel
theorem dX0_productBelow_58 : decode cX0_productBelow 58 = .ok (.iconst 1, 1) := by decide +kernel
theorem dX0_productBelow_59 : decode cX0_productBelow 59 = .ok (.goto 4, 3) := by decide +kernel
theorem dX0_productBelow_62 : decode cX0_productBelow 62 = .ok (.iconst 0, 1) := by decide +kernel
theorem dX0_productBelow_63 : decode cX0_productBelow 63 = .ok (.ireturn, 1) := by decide +kernel
theorem dX0_productBelow_64 : decode cX0_productBelow 64 = .ok (.lload_n 0, 1) := by decide +kernel
theorem dX0_productBelow_65 : decode cX0_productBelow 65 = .ok (.ldc2_w 43, 3) := by decide +kernel
theorem dX0_productBelow_68 : decode cX0_productBelow 68 = .ok (.land, 1) := by decide +kernel
theorem dX0_productBelow_69 : decode cX0_productBelow 69 = .ok (.lload_n 2, 1) := by decide +kernel
theorem dX0_productBelow_70 : decode cX0_productBelow 70 = .ok (.lmul, 1) := by decide +kernel
theorem dX0_productBelow_71 : decode cX0_productBelow 71 = .ok (.ldc2_w 43, 3) := by decide +kernel
theorem dX0_productBelow_74 : decode cX0_productBelow 74 = .ok (.land, 1) := by decide +kernel
theorem dX0_productBelow_75 : decode cX0_productBelow 75 = .ok (.lload 4, 2) := by decide +kernel
theorem dX0_productBelow_77 : decode cX0_productBelow 77 = .ok (.ldc2_w 43, 3) := by decide +kernel
theorem dX0_productBelow_80 : decode cX0_productBelow 80 = .ok (.land, 1) := by decide +kernel
theorem dX0_productBelow_81 : decode cX0_productBelow 81 = .ok (.lload 6, 2) := by decide +kernel
theorem dX0_productBelow_83 : decode cX0_productBelow 83 = .ok (.lmul, 1) := by decide +kernel
theorem dX0_productBelow_84 : decode cX0_productBelow 84 = .ok (.ldc2_w 43, 3) := by decide +kernel
theorem dX0_productBelow_87 : decode cX0_productBelow 87 = .ok (.land, 1) := by decide +kernel
theorem dX0_productBelow_88 : decode cX0_productBelow 88 = .ok (.lcmp, 1) := by decide +kernel
theorem dX0_productBelow_89 : decode cX0_productBelow 89 = .ok (.ifCond .ge 7, 3) := by decide +kernel
theorem dX0_productBelow_92 : decode cX0_productBelow 92 = .ok (.iconst 1, 1) := by decide +kernel
theorem dX0_productBelow_93 : decode cX0_productBelow 93 = .ok (.goto 4, 3) := by decide +kernel
theorem dX0_productBelow_96 : decode cX0_productBelow 96 = .ok (.iconst 0, 1) := by decide +kernel
theorem dX0_productBelow_97 : decode cX0_productBelow 97 = .ok (.ireturn, 1) := by decide +kernel
theorem dX0_commonDivisor_0 : decode cX0_commonDivisor 0 = .ok (.lload_n 0, 1) := by decide +kernel
theorem dX0_commonDivisor_1 : decode cX0_commonDivisor 1 = .ok (.lstore 4, 2) := by decide +kernel
theorem dX0_commonDivisor_3 : decode cX0_commonDivisor 3 = .ok (.lload_n 2, 1) := by decide +kernel
theorem dX0_commonDivisor_4 : decode cX0_commonDivisor 4 = .ok (.lstore 6, 2) := by decide +kernel
theorem dX0_commonDivisor_6 : decode cX0_commonDivisor 6 = .ok (.iconst 0, 1) := by decide +kernel
theorem dX0_commonDivisor_7 : decode cX0_commonDivisor 7 = .ok (.istore 8, 2) := by decide +kernel
theorem dX0_commonDivisor_9 : decode cX0_commonDivisor 9 = .ok (.iload 8, 2) := by decide +kernel
theorem dX0_commonDivisor_11 : decode cX0_commonDivisor 11 = .ok (.bipush 100, 2) := by decide +kernel
theorem dX0_commonDivisor_13 : decode cX0_commonDivisor 13 = .ok (.if_icmp .ge 31, 3) := by decide +kernel
theorem dX0_commonDivisor_16 : decode cX0_commonDivisor 16 = .ok (.lload 6, 2) := by decide +kernel
theorem dX0_commonDivisor_18 : decode cX0_commonDivisor 18 = .ok (.lconst 0, 1) := by decide +kernel
theorem dX0_commonDivisor_19 : decode cX0_commonDivisor 19 = .ok (.lcmp, 1) := by decide +kernel
theorem dX0_commonDivisor_20 : decode cX0_commonDivisor 20 = .ok (.ifCond .eq 24, 3) := by decide +kernel
theorem dX0_commonDivisor_23 : decode cX0_commonDivisor 23 = .ok (.lload 4, 2) := by decide +kernel
theorem dX0_commonDivisor_25 : decode cX0_commonDivisor 25 = .ok (.lload 6, 2) := by decide +kernel
theorem dX0_commonDivisor_27 : decode cX0_commonDivisor 27 = .ok (.lrem, 1) := by decide +kernel
theorem dX0_commonDivisor_28 : decode cX0_commonDivisor 28 = .ok (.lstore 9, 2) := by decide +kernel
theorem dX0_commonDivisor_30 : decode cX0_commonDivisor 30 = .ok (.lload 6, 2) := by decide +kernel
theorem dX0_commonDivisor_32 : decode cX0_commonDivisor 32 = .ok (.lstore 4, 2) := by decide +kernel
theorem dX0_commonDivisor_34 : decode cX0_commonDivisor 34 = .ok (.lload 9, 2) := by decide +kernel
theorem dX0_commonDivisor_36 : decode cX0_commonDivisor 36 = .ok (.lstore 6, 2) := by decide +kernel
theorem dX0_commonDivisor_38 : decode cX0_commonDivisor 38 = .ok (.iinc 8 1, 3) := by decide +kernel
theorem dX0_commonDivisor_41 : decode cX0_commonDivisor 41 = .ok (.goto (-32), 3) := by decide +kernel
theorem dX0_commonDivisor_44 : decode cX0_commonDivisor 44 = .ok (.lload 4, 2) := by decide +kernel
theorem dX0_commonDivisor_46 : decode cX0_commonDivisor 46 = .ok (.lreturn, 1) := by decide +kernel
set_option maxRecDepth 20000 in
theorem ggX0_mixLots_X5_mix : GoodIn wsX0_mixLots wsX5_mix := goodIn_r _ [7, 8] (by decide +kernel) (by decide +kernel)
set_option maxRecDepth 20000 in
theorem gX0_mixLots_X5_mix_n45 : GoodIn wsX0_mixLots (wsX5_mix) := ggX0_mixLots_X5_mix
theorem dX0_mixLots_0 : decode cX0_mixLots 0 = .ok (.lload_n 1, 1) := by decide +kernel
theorem dX0_mixLots_1 : decode cX0_mixLots 1 = .ok (.lstore_n 3, 1) := by decide +kernel
theorem dX0_mixLots_2 : decode cX0_mixLots 2 = .ok (.iconst 0, 1) := by decide +kernel
theorem dX0_mixLots_3 : decode cX0_mixLots 3 = .ok (.istore 5, 2) := by decide +kernel
theorem dX0_mixLots_5 : decode cX0_mixLots 5 = .ok (.iload 5, 2) := by decide +kernel
theorem dX0_mixLots_7 : decode cX0_mixLots 7 = .ok (.aload_n 0, 1) := by decide +kernel
theorem dX0_mixLots_8 : decode cX0_mixLots 8 = .ok (.getfield 21, 3) := by decide +kernel
theorem dX0_mixLots_11 : decode cX0_mixLots 11 = .ok (.if_icmp .ge 45, 3) := by decide +kernel
theorem dX0_mixLots_14 : decode cX0_mixLots 14 = .ok (.lload_n 3, 1) := by decide +kernel
theorem dX0_mixLots_15 : decode cX0_mixLots 15 = .ok (.aload_n 0, 1) := by decide +kernel
theorem dX0_mixLots_16 : decode cX0_mixLots 16 = .ok (.getfield 11, 3) := by decide +kernel
theorem dX0_mixLots_19 : decode cX0_mixLots 19 = .ok (.iload 5, 2) := by decide +kernel
theorem dX0_mixLots_21 : decode cX0_mixLots 21 = .ok (.iaload, 1) := by decide +kernel
theorem dX0_mixLots_22 : decode cX0_mixLots 22 = .ok (.invokestatic 45, 3) := by decide +kernel
theorem dX0_mixLots_25 : decode cX0_mixLots 25 = .ok (.lstore_n 3, 1) := by decide +kernel
theorem dX0_mixLots_26 : decode cX0_mixLots 26 = .ok (.lload_n 3, 1) := by decide +kernel
theorem dX0_mixLots_27 : decode cX0_mixLots 27 = .ok (.aload_n 0, 1) := by decide +kernel
theorem dX0_mixLots_28 : decode cX0_mixLots 28 = .ok (.getfield 15, 3) := by decide +kernel
theorem dX0_mixLots_31 : decode cX0_mixLots 31 = .ok (.iload 5, 2) := by decide +kernel
theorem dX0_mixLots_33 : decode cX0_mixLots 33 = .ok (.iaload, 1) := by decide +kernel
theorem dX0_mixLots_34 : decode cX0_mixLots 34 = .ok (.invokestatic 45, 3) := by decide +kernel
theorem dX0_mixLots_37 : decode cX0_mixLots 37 = .ok (.lstore_n 3, 1) := by decide +kernel
theorem dX0_mixLots_38 : decode cX0_mixLots 38 = .ok (.lload_n 3, 1) := by decide +kernel
theorem dX0_mixLots_39 : decode cX0_mixLots 39 = .ok (.aload_n 0, 1) := by decide +kernel
theorem dX0_mixLots_40 : decode cX0_mixLots 40 = .ok (.getfield 18, 3) := by decide +kernel
theorem dX0_mixLots_43 : decode cX0_mixLots 43 = .ok (.iload 5, 2) := by decide +kernel
theorem dX0_mixLots_45 : decode cX0_mixLots 45 = .ok (.iaload, 1) := by decide +kernel
theorem dX0_mixLots_46 : decode cX0_mixLots 46 = .ok (.invokestatic 45, 3) := by decide +kernel
theorem dX0_mixLots_49 : decode cX0_mixLots 49 = .ok (.lstore_n 3, 1) := by decide +kernel
theorem dX0_mixLots_50 : decode cX0_mixLots 50 = .ok (.iinc 5 1, 3) := by decide +kernel
theorem dX0_mixLots_53 : decode cX0_mixLots 53 = .ok (.goto (-48), 3) := by decide +kernel
theorem dX0_mixLots_56 : decode cX0_mixLots 56 = .ok (.lload_n 3, 1) := by decide +kernel
theorem dX0_mixLots_57 : decode cX0_mixLots 57 = .ok (.lreturn, 1) := by decide +kernel
theorem dX1_init_0 : decode cX1_init 0 = .ok (.aload_n 0, 1) := by decide +kernel
theorem dX1_init_1 : decode cX1_init 1 = .ok (.invokespecial 3, 3) := by decide +kernel
theorem dX1_init_4 : decode cX1_init 4 = .ok (.aload_n 0, 1) := by decide +kernel
theorem dX1_init_5 : decode cX1_init 5 = .ok (.bipush 64, 2) := by decide +kernel
theorem dX1_init_7 : decode cX1_init 7 = .ok (.newarray .int, 2) := by decide +kernel
theorem dX1_init_9 : decode cX1_init 9 = .ok (.putfield 9, 3) := by decide +kernel
theorem dX1_init_12 : decode cX1_init 12 = .ok (.return_, 1) := by decide +kernel
theorem dX1_change_0 : decode cX1_change 0 = .ok (.aload_n 0, 1) := by decide +kernel
theorem dX1_change_1 : decode cX1_change 1 = .ok (.getfield 9, 3) := by decide +kernel
theorem dX1_change_4 : decode cX1_change 4 = .ok (.iload_n 1, 1) := by decide +kernel
theorem dX1_change_5 : decode cX1_change 5 = .ok (.bipush 8, 2) := by decide +kernel
theorem dX1_change_7 : decode cX1_change 7 = .ok (.imul, 1) := by decide +kernel
theorem dX1_change_8 : decode cX1_change 8 = .ok (.iload_n 2, 1) := by decide +kernel
theorem dX1_change_9 : decode cX1_change 9 = .ok (.iadd, 1) := by decide +kernel
theorem dX1_change_10 : decode cX1_change 10 = .ok (.iaload, 1) := by decide +kernel
theorem dX1_change_11 : decode cX1_change 11 = .ok (.istore 4, 2) := by decide +kernel
theorem dX1_change_13 : decode cX1_change 13 = .ok (.aload_n 0, 1) := by decide +kernel
theorem dX1_change_14 : decode cX1_change 14 = .ok (.getfield 9, 3) := by decide +kernel
theorem dX1_change_17 : decode cX1_change 17 = .ok (.iload_n 1, 1) := by decide +kernel
theorem dX1_change_18 : decode cX1_change 18 = .ok (.bipush 8, 2) := by decide +kernel
theorem dX1_change_20 : decode cX1_change 20 = .ok (.imul, 1) := by decide +kernel
theorem dX1_change_21 : decode cX1_change 21 = .ok (.iload_n 2, 1) := by decide +kernel
theorem dX1_change_22 : decode cX1_change 22 = .ok (.iadd, 1) := by decide +kernel
theorem dX1_change_23 : decode cX1_change 23 = .ok (.iload_n 3, 1) := by decide +kernel
theorem dX1_change_24 : decode cX1_change 24 = .ok (.iastore, 1) := by decide +kernel
theorem dX1_change_25 : decode cX1_change 25 = .ok (.iload 4, 2) := by decide +kernel
theorem dX1_change_27 : decode cX1_change 27 = .ok (.ireturn, 1) := by decide +kernel
theorem dX1_total_0 : decode cX1_total 0 = .ok (.iconst 0, 1) := by decide +kernel
theorem dX1_total_1 : decode cX1_total 1 = .ok (.istore_n 1, 1) := by decide +kernel
theorem dX1_total_2 : decode cX1_total 2 = .ok (.iconst 0, 1) := by decide +kernel
theorem dX1_total_3 : decode cX1_total 3 = .ok (.istore_n 2, 1) := by decide +kernel
theorem dX1_total_4 : decode cX1_total 4 = .ok (.iload_n 2, 1) := by decide +kernel
theorem dX1_total_5 : decode cX1_total 5 = .ok (.aload_n 0, 1) := by decide +kernel
theorem dX1_total_6 : decode cX1_total 6 = .ok (.getfield 9, 3) := by decide +kernel
theorem dX1_total_9 : decode cX1_total 9 = .ok (.arraylength, 1) := by decide +kernel
theorem dX1_total_10 : decode cX1_total 10 = .ok (.if_icmp .ge 18, 3) := by decide +kernel
theorem dX1_total_13 : decode cX1_total 13 = .ok (.iload_n 1, 1) := by decide +kernel
theorem dX1_total_14 : decode cX1_total 14 = .ok (.aload_n 0, 1) := by decide +kernel
theorem dX1_total_15 : decode cX1_total 15 = .ok (.getfield 9, 3) := by decide +kernel
theorem dX1_total_18 : decode cX1_total 18 = .ok (.iload_n 2, 1) := by decide +kernel
theorem dX1_total_19 : decode cX1_total 19 = .ok (.iaload, 1) := by decide +kernel
theorem dX1_total_20 : decode cX1_total 20 = .ok (.iadd, 1) := by decide +kernel
theorem dX1_total_21 : decode cX1_total 21 = .ok (.istore_n 1, 1) := by decide +kernel
theorem dX1_total_22 : decode cX1_total 22 = .ok (.iinc 2 1, 3) := by decide +kernel
theorem dX1_total_25 : decode cX1_total 25 = .ok (.goto (-21), 3) := by decide +kernel
theorem dX1_total_28 : decode cX1_total 28 = .ok (.iload_n 1, 1) := by decide +kernel
theorem dX1_total_29 : decode cX1_total 29 = .ok (.ireturn, 1) := by decide +kernel
set_option maxRecDepth 20000 in
theorem ggX1_netOf_X1_owedTo : GoodIn wsX1_netOf wsX1_owedTo := goodIn_r _ [5, 6, 11] (by decide +kernel) (by decide +kernel)
set_option maxRecDepth 20000 in
theorem gX1_netOf_X1_owedTo : GoodIn wsX1_netOf (wsV RX1 15 RX1 yX1_owedTo wsX1_owedTo) := goodIn_app (goodIn_of _ (by decide +kernel)) ggX1_netOf_X1_owedTo
set_option maxRecDepth 20000 in
theorem ggX1_netOf_X1_owedBy : GoodIn wsX1_netOf wsX1_owedBy := goodIn_r _ [10, 6, 11] (by decide +kernel) (by decide +kernel)
set_option maxRecDepth 20000 in
theorem gX1_netOf_X1_owedBy : GoodIn wsX1_netOf (wsV RX1 19 RX1 yX1_owedBy wsX1_owedBy) := goodIn_app (goodIn_of _ (by decide +kernel)) ggX1_netOf_X1_owedBy
theorem dX1_netOf_0 : decode cX1_netOf 0 = .ok (.aload_n 0, 1) := by decide +kernel
theorem dX1_netOf_1 : decode cX1_netOf 1 = .ok (.iload_n 1, 1) := by decide +kernel
theorem dX1_netOf_2 : decode cX1_netOf 2 = .ok (.sipush 255, 3) := by decide +kernel
theorem dX1_netOf_5 : decode cX1_netOf 5 = .ok (.invokevirtual 15, 3) := by decide +kernel
theorem dX1_netOf_8 : decode cX1_netOf 8 = .ok (.aload_n 0, 1) := by decide +kernel
theorem dX1_netOf_9 : decode cX1_netOf 9 = .ok (.iload_n 1, 1) := by decide +kernel
theorem dX1_netOf_10 : decode cX1_netOf 10 = .ok (.invokevirtual 19, 3) := by decide +kernel
theorem dX1_netOf_13 : decode cX1_netOf 13 = .ok (.isub, 1) := by decide +kernel
theorem dX1_netOf_14 : decode cX1_netOf 14 = .ok (.ireturn, 1) := by decide +kernel
theorem dX1_owedBy_0 : decode cX1_owedBy 0 = .ok (.iconst 0, 1) := by decide +kernel
theorem dX1_owedBy_1 : decode cX1_owedBy 1 = .ok (.istore_n 2, 1) := by decide +kernel
theorem dX1_owedBy_2 : decode cX1_owedBy 2 = .ok (.iconst 0, 1) := by decide +kernel
theorem dX1_owedBy_3 : decode cX1_owedBy 3 = .ok (.istore_n 3, 1) := by decide +kernel
theorem dX1_owedBy_4 : decode cX1_owedBy 4 = .ok (.iload_n 3, 1) := by decide +kernel
theorem dX1_owedBy_5 : decode cX1_owedBy 5 = .ok (.bipush 8, 2) := by decide +kernel
theorem dX1_owedBy_7 : decode cX1_owedBy 7 = .ok (.if_icmp .ge 23, 3) := by decide +kernel
theorem dX1_owedBy_10 : decode cX1_owedBy 10 = .ok (.iload_n 2, 1) := by decide +kernel
theorem dX1_owedBy_11 : decode cX1_owedBy 11 = .ok (.aload_n 0, 1) := by decide +kernel
theorem dX1_owedBy_12 : decode cX1_owedBy 12 = .ok (.getfield 9, 3) := by decide +kernel
theorem dX1_owedBy_15 : decode cX1_owedBy 15 = .ok (.iload_n 1, 1) := by decide +kernel
theorem dX1_owedBy_16 : decode cX1_owedBy 16 = .ok (.bipush 8, 2) := by decide +kernel
theorem dX1_owedBy_18 : decode cX1_owedBy 18 = .ok (.imul, 1) := by decide +kernel
theorem dX1_owedBy_19 : decode cX1_owedBy 19 = .ok (.iload_n 3, 1) := by decide +kernel
theorem dX1_owedBy_20 : decode cX1_owedBy 20 = .ok (.iadd, 1) := by decide +kernel
theorem dX1_owedBy_21 : decode cX1_owedBy 21 = .ok (.iaload, 1) := by decide +kernel
theorem dX1_owedBy_22 : decode cX1_owedBy 22 = .ok (.iadd, 1) := by decide +kernel
theorem dX1_owedBy_23 : decode cX1_owedBy 23 = .ok (.istore_n 2, 1) := by decide +kernel
theorem dX1_owedBy_24 : decode cX1_owedBy 24 = .ok (.iinc 3 1, 3) := by decide +kernel
theorem dX1_owedBy_27 : decode cX1_owedBy 27 = .ok (.goto (-23), 3) := by decide +kernel
theorem dX1_owedBy_30 : decode cX1_owedBy 30 = .ok (.iload_n 2, 1) := by decide +kernel
theorem dX1_owedBy_31 : decode cX1_owedBy 31 = .ok (.ireturn, 1) := by decide +kernel
theorem dX1_owedTo_0 : decode cX1_owedTo 0 = .ok (.iconst 0, 1) := by decide +kernel
theorem dX1_owedTo_1 : decode cX1_owedTo 1 = .ok (.istore_n 3, 1) := by decide +kernel
theorem dX1_owedTo_2 : decode cX1_owedTo 2 = .ok (.iconst 0, 1) := by decide +kernel
theorem dX1_owedTo_3 : decode cX1_owedTo 3 = .ok (.istore 4, 2) := by decide +kernel
theorem dX1_owedTo_5 : decode cX1_owedTo 5 = .ok (.iload 4, 2) := by decide +kernel
theorem dX1_owedTo_7 : decode cX1_owedTo 7 = .ok (.bipush 8, 2) := by decide +kernel
theorem dX1_owedTo_9 : decode cX1_owedTo 9 = .ok (.if_icmp .ge 34, 3) := by decide +kernel
theorem dX1_owedTo_12 : decode cX1_owedTo 12 = .ok (.iload_n 2, 1) := by decide +kernel
theorem dX1_owedTo_13 : decode cX1_owedTo 13 = .ok (.iload 4, 2) := by decide +kernel
theorem dX1_owedTo_15 : decode cX1_owedTo 15 = .ok (.ishr, 1) := by decide +kernel
theorem dX1_owedTo_16 : decode cX1_owedTo 16 = .ok (.iconst 1, 1) := by decide +kernel
theorem dX1_owedTo_17 : decode cX1_owedTo 17 = .ok (.iand, 1) := by decide +kernel
theorem dX1_owedTo_18 : decode cX1_owedTo 18 = .ok (.iconst 1, 1) := by decide +kernel
theorem dX1_owedTo_19 : decode cX1_owedTo 19 = .ok (.if_icmp .ne 18, 3) := by decide +kernel
theorem dX1_owedTo_22 : decode cX1_owedTo 22 = .ok (.iload_n 3, 1) := by decide +kernel
theorem dX1_owedTo_23 : decode cX1_owedTo 23 = .ok (.aload_n 0, 1) := by decide +kernel
theorem dX1_owedTo_24 : decode cX1_owedTo 24 = .ok (.getfield 9, 3) := by decide +kernel
theorem dX1_owedTo_27 : decode cX1_owedTo 27 = .ok (.iload 4, 2) := by decide +kernel
theorem dX1_owedTo_29 : decode cX1_owedTo 29 = .ok (.bipush 8, 2) := by decide +kernel
theorem dX1_owedTo_31 : decode cX1_owedTo 31 = .ok (.imul, 1) := by decide +kernel
theorem dX1_owedTo_32 : decode cX1_owedTo 32 = .ok (.iload_n 1, 1) := by decide +kernel
theorem dX1_owedTo_33 : decode cX1_owedTo 33 = .ok (.iadd, 1) := by decide +kernel
theorem dX1_owedTo_34 : decode cX1_owedTo 34 = .ok (.iaload, 1) := by decide +kernel
theorem dX1_owedTo_35 : decode cX1_owedTo 35 = .ok (.iadd, 1) := by decide +kernel
theorem dX1_owedTo_36 : decode cX1_owedTo 36 = .ok (.istore_n 3, 1) := by decide +kernel
theorem dX1_owedTo_37 : decode cX1_owedTo 37 = .ok (.iinc 4 1, 3) := by decide +kernel
theorem dX1_owedTo_40 : decode cX1_owedTo 40 = .ok (.goto (-35), 3) := by decide +kernel
theorem dX1_owedTo_43 : decode cX1_owedTo 43 = .ok (.iload_n 3, 1) := by decide +kernel
theorem dX1_owedTo_44 : decode cX1_owedTo 44 = .ok (.ireturn, 1) := by decide +kernel
set_option maxRecDepth 20000 in
theorem ggX1_fallFrom_X1_fallingNext : GoodIn wsX1_fallFrom wsX1_fallingNext := goodIn_r _ [5, 6, 7, 8, 4, 9, 10, 11, 12, 13, 14, 15] (by decide +kernel) (by decide +kernel)
set_option maxRecDepth 20000 in
theorem gX1_fallFrom_X1_fallingNext : GoodIn wsX1_fallFrom (wsV RX1 23 RX1 yX1_fallingNext wsX1_fallingNext) := goodIn_app (goodIn_of _ (by decide +kernel)) ggX1_fallFrom_X1_fallingNext
theorem dX1_fallFrom_0 : decode cX1_fallFrom 0 = .ok (.iconst 1, 1) := by decide +kernel
theorem dX1_fallFrom_1 : decode cX1_fallFrom 1 = .ok (.iload_n 1, 1) := by decide +kernel
theorem dX1_fallFrom_2 : decode cX1_fallFrom 2 = .ok (.ishl, 1) := by decide +kernel
theorem dX1_fallFrom_3 : decode cX1_fallFrom 3 = .ok (.istore_n 3, 1) := by decide +kernel
theorem dX1_fallFrom_4 : decode cX1_fallFrom 4 = .ok (.iconst 0, 1) := by decide +kernel
theorem dX1_fallFrom_5 : decode cX1_fallFrom 5 = .ok (.istore 4, 2) := by decide +kernel
theorem dX1_fallFrom_7 : decode cX1_fallFrom 7 = .ok (.iload 4, 2) := by decide +kernel
theorem dX1_fallFrom_9 : decode cX1_fallFrom 9 = .ok (.bipush 8, 2) := by decide +kernel
theorem dX1_fallFrom_11 : decode cX1_fallFrom 11 = .ok (.if_icmp .ge 18, 3) := by decide +kernel
theorem dX1_fallFrom_14 : decode cX1_fallFrom 14 = .ok (.iload_n 3, 1) := by decide +kernel
theorem dX1_fallFrom_15 : decode cX1_fallFrom 15 = .ok (.aload_n 0, 1) := by decide +kernel
theorem dX1_fallFrom_16 : decode cX1_fallFrom 16 = .ok (.iload_n 3, 1) := by decide +kernel
theorem dX1_fallFrom_17 : decode cX1_fallFrom 17 = .ok (.iload_n 2, 1) := by decide +kernel
theorem dX1_fallFrom_18 : decode cX1_fallFrom 18 = .ok (.invokevirtual 23, 3) := by decide +kernel
theorem dX1_fallFrom_21 : decode cX1_fallFrom 21 = .ok (.ior, 1) := by decide +kernel
theorem dX1_fallFrom_22 : decode cX1_fallFrom 22 = .ok (.istore_n 3, 1) := by decide +kernel
theorem dX1_fallFrom_23 : decode cX1_fallFrom 23 = .ok (.iinc 4 1, 3) := by decide +kernel
theorem dX1_fallFrom_26 : decode cX1_fallFrom 26 = .ok (.goto (-19), 3) := by decide +kernel
theorem dX1_fallFrom_29 : decode cX1_fallFrom 29 = .ok (.iload_n 3, 1) := by decide +kernel
theorem dX1_fallFrom_30 : decode cX1_fallFrom 30 = .ok (.ireturn, 1) := by decide +kernel
set_option maxRecDepth 20000 in
theorem ggX1_fallingNext_X1_owedTo : GoodIn wsX1_fallingNext wsX1_owedTo := goodIn_r _ [5, 6, 11] (by decide +kernel) (by decide +kernel)
set_option maxRecDepth 20000 in
theorem gX1_fallingNext_X1_owedTo : GoodIn wsX1_fallingNext (wsV RX1 15 RX1 yX1_owedTo wsX1_owedTo) := goodIn_app (goodIn_of _ (by decide +kernel)) ggX1_fallingNext_X1_owedTo
set_option maxRecDepth 20000 in
theorem ggX1_fallingNext_X1_owedBy : GoodIn wsX1_fallingNext wsX1_owedBy := goodIn_r _ [10, 6, 11] (by decide +kernel) (by decide +kernel)
set_option maxRecDepth 20000 in
theorem gX1_fallingNext_X1_owedBy : GoodIn wsX1_fallingNext (wsV RX1 19 RX1 yX1_owedBy wsX1_owedBy) := goodIn_app (goodIn_of _ (by decide +kernel)) ggX1_fallingNext_X1_owedBy
theorem dX1_fallingNext_0 : decode cX1_fallingNext 0 = .ok (.iconst 0, 1) := by decide +kernel
theorem dX1_fallingNext_1 : decode cX1_fallingNext 1 = .ok (.istore_n 3, 1) := by decide +kernel
theorem dX1_fallingNext_2 : decode cX1_fallingNext 2 = .ok (.iconst 0, 1) := by decide +kernel
theorem dX1_fallingNext_3 : decode cX1_fallingNext 3 = .ok (.istore 4, 2) := by decide +kernel
theorem dX1_fallingNext_5 : decode cX1_fallingNext 5 = .ok (.iload 4, 2) := by decide +kernel
theorem dX1_fallingNext_7 : decode cX1_fallingNext 7 = .ok (.bipush 8, 2) := by decide +kernel
theorem dX1_fallingNext_9 : decode cX1_fallingNext 9 = .ok (.if_icmp .ge 57, 3) := by decide +kernel
theorem dX1_fallingNext_12 : decode cX1_fallingNext 12 = .ok (.iload_n 1, 1) := by decide +kernel
theorem dX1_fallingNext_13 : decode cX1_fallingNext 13 = .ok (.iload 4, 2) := by decide +kernel
theorem dX1_fallingNext_15 : decode cX1_fallingNext 15 = .ok (.ishr, 1) := by decide +kernel
theorem dX1_fallingNext_16 : decode cX1_fallingNext 16 = .ok (.iconst 1, 1) := by decide +kernel
theorem dX1_fallingNext_17 : decode cX1_fallingNext 17 = .ok (.iand, 1) := by decide +kernel
theorem dX1_fallingNext_18 : decode cX1_fallingNext 18 = .ok (.ifCond .ne 7, 3) := by decide +kernel
theorem dX1_fallingNext_21 : decode cX1_fallingNext 21 = .ok (.iconst 1, 1) := by decide +kernel
theorem dX1_fallingNext_22 : decode cX1_fallingNext 22 = .ok (.goto 4, 3) := by decide +kernel
theorem dX1_fallingNext_25 : decode cX1_fallingNext 25 = .ok (.iconst 0, 1) := by decide +kernel
theorem dX1_fallingNext_26 : decode cX1_fallingNext 26 = .ok (.istore 5, 2) := by decide +kernel
theorem dX1_fallingNext_28 : decode cX1_fallingNext 28 = .ok (.iload 5, 2) := by decide +kernel
theorem dX1_fallingNext_30 : decode cX1_fallingNext 30 = .ok (.ifCond .eq 30, 3) := by decide +kernel
theorem dX1_fallingNext_33 : decode cX1_fallingNext 33 = .ok (.iload_n 2, 1) := by decide +kernel
theorem dX1_fallingNext_34 : decode cX1_fallingNext 34 = .ok (.aload_n 0, 1) := by decide +kernel
theorem dX1_fallingNext_35 : decode cX1_fallingNext 35 = .ok (.iload 4, 2) := by decide +kernel
theorem dX1_fallingNext_37 : decode cX1_fallingNext 37 = .ok (.iload_n 1, 1) := by decide +kernel
theorem dX1_fallingNext_38 : decode cX1_fallingNext 38 = .ok (.iconst (-1), 1) := by decide +kernel
theorem dX1_fallingNext_39 : decode cX1_fallingNext 39 = .ok (.ixor, 1) := by decide +kernel
theorem dX1_fallingNext_40 : decode cX1_fallingNext 40 = .ok (.invokevirtual 15, 3) := by decide +kernel
theorem dX1_fallingNext_43 : decode cX1_fallingNext 43 = .ok (.iadd, 1) := by decide +kernel
theorem dX1_fallingNext_44 : decode cX1_fallingNext 44 = .ok (.aload_n 0, 1) := by decide +kernel
theorem dX1_fallingNext_45 : decode cX1_fallingNext 45 = .ok (.iload 4, 2) := by decide +kernel
theorem dX1_fallingNext_47 : decode cX1_fallingNext 47 = .ok (.invokevirtual 19, 3) := by decide +kernel
theorem dX1_fallingNext_50 : decode cX1_fallingNext 50 = .ok (.if_icmp .ge 10, 3) := by decide +kernel
theorem dX1_fallingNext_53 : decode cX1_fallingNext 53 = .ok (.iload_n 3, 1) := by decide +kernel
theorem dX1_fallingNext_54 : decode cX1_fallingNext 54 = .ok (.iconst 1, 1) := by decide +kernel
theorem dX1_fallingNext_55 : decode cX1_fallingNext 55 = .ok (.iload 4, 2) := by decide +kernel
theorem dX1_fallingNext_57 : decode cX1_fallingNext 57 = .ok (.ishl, 1) := by decide +kernel
theorem dX1_fallingNext_58 : decode cX1_fallingNext 58 = .ok (.ior, 1) := by decide +kernel
theorem dX1_fallingNext_59 : decode cX1_fallingNext 59 = .ok (.istore_n 3, 1) := by decide +kernel
theorem dX1_fallingNext_60 : decode cX1_fallingNext 60 = .ok (.iinc 4 1, 3) := by decide +kernel
theorem dX1_fallingNext_63 : decode cX1_fallingNext 63 = .ok (.goto (-58), 3) := by decide +kernel
theorem dX1_fallingNext_66 : decode cX1_fallingNext 66 = .ok (.iload_n 3, 1) := by decide +kernel
theorem dX1_fallingNext_67 : decode cX1_fallingNext 67 = .ok (.ireturn, 1) := by decide +kernel
set_option maxRecDepth 20000 in
theorem ggX2_init_J7_fill_53178 : GoodIn wsX2_init wsJ7_fill_53178 := goodIn_r _ [13] (by decide +kernel) (by decide +kernel)
set_option maxRecDepth 20000 in
theorem gX2_init_J7_fill_53178 : GoodIn wsX2_init (va_wsS RX2 28 yJ7_fill_53178 wsJ7_fill_53178) := goodIn_app (goodIn_of _ (by decide +kernel)) ggX2_init_J7_fill_53178
theorem dX2_init_0 : decode cX2_init 0 = .ok (.aload_n 0, 1) := by decide +kernel
theorem dX2_init_1 : decode cX2_init 1 = .ok (.invokespecial 3, 3) := by decide +kernel
theorem dX2_init_4 : decode cX2_init 4 = .ok (.aload_n 0, 1) := by decide +kernel
theorem dX2_init_5 : decode cX2_init 5 = .ok (.bipush 10, 2) := by decide +kernel
theorem dX2_init_7 : decode cX2_init 7 = .ok (.newarray .int, 2) := by decide +kernel
theorem dX2_init_9 : decode cX2_init 9 = .ok (.putfield 9, 3) := by decide +kernel
theorem dX2_init_12 : decode cX2_init 12 = .ok (.aload_n 0, 1) := by decide +kernel
theorem dX2_init_13 : decode cX2_init 13 = .ok (.bipush 10, 2) := by decide +kernel
theorem dX2_init_15 : decode cX2_init 15 = .ok (.newarray .int, 2) := by decide +kernel
theorem dX2_init_17 : decode cX2_init 17 = .ok (.putfield 15, 3) := by decide +kernel
theorem dX2_init_20 : decode cX2_init 20 = .ok (.aload_n 0, 1) := by decide +kernel
theorem dX2_init_21 : decode cX2_init 21 = .ok (.bipush 12, 2) := by decide +kernel
theorem dX2_init_23 : decode cX2_init 23 = .ok (.newarray .int, 2) := by decide +kernel
theorem dX2_init_25 : decode cX2_init 25 = .ok (.putfield 18, 3) := by decide +kernel
theorem dX2_init_28 : decode cX2_init 28 = .ok (.aload_n 0, 1) := by decide +kernel
theorem dX2_init_29 : decode cX2_init 29 = .ok (.bipush 60, 2) := by decide +kernel
theorem dX2_init_31 : decode cX2_init 31 = .ok (.newarray .int, 2) := by decide +kernel
theorem dX2_init_33 : decode cX2_init 33 = .ok (.putfield 21, 3) := by decide +kernel
theorem dX2_init_36 : decode cX2_init 36 = .ok (.aload_n 0, 1) := by decide +kernel
theorem dX2_init_37 : decode cX2_init 37 = .ok (.iconst 0, 1) := by decide +kernel
theorem dX2_init_38 : decode cX2_init 38 = .ok (.putfield 24, 3) := by decide +kernel
theorem dX2_init_41 : decode cX2_init 41 = .ok (.aload_n 0, 1) := by decide +kernel
theorem dX2_init_42 : decode cX2_init 42 = .ok (.getfield 9, 3) := by decide +kernel
theorem dX2_init_45 : decode cX2_init 45 = .ok (.sipush 1600, 3) := by decide +kernel
theorem dX2_init_48 : decode cX2_init 48 = .ok (.invokestatic 28, 3) := by decide +kernel
theorem dX2_init_51 : decode cX2_init 51 = .ok (.aload_n 0, 1) := by decide +kernel
theorem dX2_init_52 : decode cX2_init 52 = .ok (.getfield 15, 3) := by decide +kernel
theorem dX2_init_55 : decode cX2_init 55 = .ok (.sipush 1950, 3) := by decide +kernel
theorem dX2_init_58 : decode cX2_init 58 = .ok (.invokestatic 28, 3) := by decide +kernel
theorem dX2_init_61 : decode cX2_init 61 = .ok (.return_, 1) := by decide +kernel
theorem dX2_setYears_0 : decode cX2_setYears 0 = .ok (.aload_n 0, 1) := by decide +kernel
theorem dX2_setYears_1 : decode cX2_setYears 1 = .ok (.getfield 9, 3) := by decide +kernel
theorem dX2_setYears_4 : decode cX2_setYears 4 = .ok (.iload_n 1, 1) := by decide +kernel
theorem dX2_setYears_5 : decode cX2_setYears 5 = .ok (.iload_n 2, 1) := by decide +kernel
theorem dX2_setYears_6 : decode cX2_setYears 6 = .ok (.iastore, 1) := by decide +kernel
theorem dX2_setYears_7 : decode cX2_setYears 7 = .ok (.aload_n 0, 1) := by decide +kernel
theorem dX2_setYears_8 : decode cX2_setYears 8 = .ok (.getfield 15, 3) := by decide +kernel
theorem dX2_setYears_11 : decode cX2_setYears 11 = .ok (.iload_n 1, 1) := by decide +kernel
theorem dX2_setYears_12 : decode cX2_setYears 12 = .ok (.iload_n 3, 1) := by decide +kernel
theorem dX2_setYears_13 : decode cX2_setYears 13 = .ok (.iastore, 1) := by decide +kernel
theorem dX2_setYears_14 : decode cX2_setYears 14 = .ok (.return_, 1) := by decide +kernel
theorem dX2_addThing_0 : decode cX2_addThing 0 = .ok (.aload_n 0, 1) := by decide +kernel
theorem dX2_addThing_1 : decode cX2_addThing 1 = .ok (.getfield 24, 3) := by decide +kernel
theorem dX2_addThing_4 : decode cX2_addThing 4 = .ok (.bipush 12, 2) := by decide +kernel
theorem dX2_addThing_6 : decode cX2_addThing 6 = .ok (.if_icmp .lt 6, 3) := by decide +kernel
theorem dX2_addThing_9 : decode cX2_addThing 9 = .ok (.bipush (-4), 2) := by decide +kernel
theorem dX2_addThing_11 : decode cX2_addThing 11 = .ok (.ireturn, 1) := by decide +kernel
theorem dX2_addThing_12 : decode cX2_addThing 12 = .ok (.aload_n 0, 1) := by decide +kernel
theorem dX2_addThing_13 : decode cX2_addThing 13 = .ok (.getfield 18, 3) := by decide +kernel
theorem dX2_addThing_16 : decode cX2_addThing 16 = .ok (.aload_n 0, 1) := by decide +kernel
theorem dX2_addThing_17 : decode cX2_addThing 17 = .ok (.getfield 24, 3) := by decide +kernel
theorem dX2_addThing_20 : decode cX2_addThing 20 = .ok (.iload_n 1, 1) := by decide +kernel
theorem dX2_addThing_21 : decode cX2_addThing 21 = .ok (.iastore, 1) := by decide +kernel
theorem dX2_addThing_22 : decode cX2_addThing 22 = .ok (.aload_n 0, 1) := by decide +kernel
theorem dX2_addThing_23 : decode cX2_addThing 23 = .ok (.dup, 1) := by decide +kernel
theorem dX2_addThing_24 : decode cX2_addThing 24 = .ok (.getfield 24, 3) := by decide +kernel
theorem dX2_addThing_27 : decode cX2_addThing 27 = .ok (.iconst 1, 1) := by decide +kernel
theorem dX2_addThing_28 : decode cX2_addThing 28 = .ok (.iadd, 1) := by decide +kernel
theorem dX2_addThing_29 : decode cX2_addThing 29 = .ok (.putfield 24, 3) := by decide +kernel
theorem dX2_addThing_32 : decode cX2_addThing 32 = .ok (.aload_n 0, 1) := by decide +kernel
theorem dX2_addThing_33 : decode cX2_addThing 33 = .ok (.getfield 24, 3) := by decide +kernel
theorem dX2_addThing_36 : decode cX2_addThing 36 = .ok (.iconst 1, 1) := by decide +kernel
theorem dX2_addThing_37 : decode cX2_addThing 37 = .ok (.isub, 1) := by decide +kernel
theorem dX2_addThing_38 : decode cX2_addThing 38 = .ok (.ireturn, 1) := by decide +kernel
theorem dX2_thingCount_0 : decode cX2_thingCount 0 = .ok (.aload_n 0, 1) := by decide +kernel
theorem dX2_thingCount_1 : decode cX2_thingCount 1 = .ok (.getfield 24, 3) := by decide +kernel
theorem dX2_thingCount_4 : decode cX2_thingCount 4 = .ok (.ireturn, 1) := by decide +kernel
set_option maxRecDepth 20000 in
theorem ggX2_hasThing_X5_within : GoodIn wsX2_hasThing wsX5_within := goodIn_r _ [4] (by decide +kernel) (by decide +kernel)
set_option maxRecDepth 20000 in
theorem gX2_hasThing_X5_within_n34 : GoodIn wsX2_hasThing (wsX5_within) := ggX2_hasThing_X5_within
theorem dX2_hasThing_0 : decode cX2_hasThing 0 = .ok (.iload_n 1, 1) := by decide +kernel
theorem dX2_hasThing_1 : decode cX2_hasThing 1 = .ok (.iconst 0, 1) := by decide +kernel
theorem dX2_hasThing_2 : decode cX2_hasThing 2 = .ok (.aload_n 0, 1) := by decide +kernel
theorem dX2_hasThing_3 : decode cX2_hasThing 3 = .ok (.getfield 24, 3) := by decide +kernel
theorem dX2_hasThing_6 : decode cX2_hasThing 6 = .ok (.iconst 1, 1) := by decide +kernel
theorem dX2_hasThing_7 : decode cX2_hasThing 7 = .ok (.isub, 1) := by decide +kernel
theorem dX2_hasThing_8 : decode cX2_hasThing 8 = .ok (.invokestatic 34, 3) := by decide +kernel
theorem dX2_hasThing_11 : decode cX2_hasThing 11 = .ok (.ireturn, 1) := by decide +kernel
set_option maxRecDepth 20000 in
theorem ggX2_hasPart_X2_hasThing : GoodIn wsX2_hasPart wsX2_hasThing := goodIn_r _ [6, 7, 8, 9, 10, 11, 12, 13, 14, 15] (by decide +kernel) (by decide +kernel)
set_option maxRecDepth 20000 in
theorem gX2_hasPart_X2_hasThing : GoodIn wsX2_hasPart (wsV RX2 38 RX2 yX2_hasThing wsX2_hasThing) := goodIn_app (goodIn_of _ (by decide +kernel)) ggX2_hasPart_X2_hasThing
set_option maxRecDepth 20000 in
theorem ggX2_hasPart_X5_within : GoodIn wsX2_hasPart wsX5_within := goodIn_r _ [10] (by decide +kernel) (by decide +kernel)
set_option maxRecDepth 20000 in
theorem gX2_hasPart_X5_within_n34 : GoodIn wsX2_hasPart (wsX5_within) := ggX2_hasPart_X5_within
theorem dX2_hasPart_0 : decode cX2_hasPart 0 = .ok (.aload_n 0, 1) := by decide +kernel
theorem dX2_hasPart_1 : decode cX2_hasPart 1 = .ok (.iload_n 1, 1) := by decide +kernel
theorem dX2_hasPart_2 : decode cX2_hasPart 2 = .ok (.invokevirtual 38, 3) := by decide +kernel
theorem dX2_hasPart_5 : decode cX2_hasPart 5 = .ok (.ifCond .eq 23, 3) := by decide +kernel
theorem dX2_hasPart_8 : decode cX2_hasPart 8 = .ok (.iload_n 2, 1) := by decide +kernel
theorem dX2_hasPart_9 : decode cX2_hasPart 9 = .ok (.iconst 0, 1) := by decide +kernel
theorem dX2_hasPart_10 : decode cX2_hasPart 10 = .ok (.aload_n 0, 1) := by decide +kernel
theorem dX2_hasPart_11 : decode cX2_hasPart 11 = .ok (.getfield 18, 3) := by decide +kernel
theorem dX2_hasPart_14 : decode cX2_hasPart 14 = .ok (.iload_n 1, 1) := by decide +kernel
theorem dX2_hasPart_15 : decode cX2_hasPart 15 = .ok (.iaload, 1) := by decide +kernel
theorem dX2_hasPart_16 : decode cX2_hasPart 16 = .ok (.iconst 1, 1) := by decide +kernel
theorem dX2_hasPart_17 : decode cX2_hasPart 17 = .ok (.isub, 1) := by decide +kernel
theorem dX2_hasPart_18 : decode cX2_hasPart 18 = .ok (.invokestatic 34, 3) := by decide +kernel
theorem dX2_hasPart_21 : decode cX2_hasPart 21 = .ok (.ifCond .eq 7, 3) := by decide +kernel
theorem dX2_hasPart_24 : decode cX2_hasPart 24 = .ok (.iconst 1, 1) := by decide +kernel
theorem dX2_hasPart_25 : decode cX2_hasPart 25 = .ok (.goto 4, 3) := by decide +kernel
theorem dX2_hasPart_28 : decode cX2_hasPart 28 = .ok (.iconst 0, 1) := by decide +kernel
theorem dX2_hasPart_29 : decode cX2_hasPart 29 = .ok (.ireturn, 1) := by decide +kernel
theorem dX2_worksOf_0 : decode cX2_worksOf 0 = .ok (.aload_n 0, 1) := by decide +kernel
theorem dX2_worksOf_1 : decode cX2_worksOf 1 = .ok (.getfield 21, 3) := by decide +kernel
theorem dX2_worksOf_4 : decode cX2_worksOf 4 = .ok (.iload_n 1, 1) := by decide +kernel
theorem dX2_worksOf_5 : decode cX2_worksOf 5 = .ok (.iconst 5, 1) := by decide +kernel
theorem dX2_worksOf_6 : decode cX2_worksOf 6 = .ok (.imul, 1) := by decide +kernel
theorem dX2_worksOf_7 : decode cX2_worksOf 7 = .ok (.iload_n 2, 1) := by decide +kernel
theorem dX2_worksOf_8 : decode cX2_worksOf 8 = .ok (.iadd, 1) := by decide +kernel
theorem dX2_worksOf_9 : decode cX2_worksOf 9 = .ok (.iaload, 1) := by decide +kernel
theorem dX2_worksOf_10 : decode cX2_worksOf 10 = .ok (.ireturn, 1) := by decide +kernel
set_option maxRecDepth 20000 in
theorem ggX2_changeWorks_X2_worksOf : GoodIn wsX2_changeWorks wsX2_worksOf := goodIn_r _ [6, 1, 7, 8, 9, 10, 11] (by decide +kernel) (by decide +kernel)
set_option maxRecDepth 20000 in
theorem gX2_changeWorks_X2_worksOf : GoodIn wsX2_changeWorks (wsV RX2 42 RX2 yX2_worksOf wsX2_worksOf) := goodIn_app (goodIn_of _ (by decide +kernel)) ggX2_changeWorks_X2_worksOf
theorem dX2_changeWorks_0 : decode cX2_changeWorks 0 = .ok (.aload_n 0, 1) := by decide +kernel
theorem dX2_changeWorks_1 : decode cX2_changeWorks 1 = .ok (.iload_n 1, 1) := by decide +kernel
theorem dX2_changeWorks_2 : decode cX2_changeWorks 2 = .ok (.iload_n 2, 1) := by decide +kernel
theorem dX2_changeWorks_3 : decode cX2_changeWorks 3 = .ok (.invokevirtual 42, 3) := by decide +kernel
theorem dX2_changeWorks_6 : decode cX2_changeWorks 6 = .ok (.istore 4, 2) := by decide +kernel
theorem dX2_changeWorks_8 : decode cX2_changeWorks 8 = .ok (.aload_n 0, 1) := by decide +kernel
theorem dX2_changeWorks_9 : decode cX2_changeWorks 9 = .ok (.getfield 21, 3) := by decide +kernel
theorem dX2_changeWorks_12 : decode cX2_changeWorks 12 = .ok (.iload_n 1, 1) := by decide +kernel
theorem dX2_changeWorks_13 : decode cX2_changeWorks 13 = .ok (.iconst 5, 1) := by decide +kernel
theorem dX2_changeWorks_14 : decode cX2_changeWorks 14 = .ok (.imul, 1) := by decide +kernel
theorem dX2_changeWorks_15 : decode cX2_changeWorks 15 = .ok (.iload_n 2, 1) := by decide +kernel
theorem dX2_changeWorks_16 : decode cX2_changeWorks 16 = .ok (.iadd, 1) := by decide +kernel
theorem dX2_changeWorks_17 : decode cX2_changeWorks 17 = .ok (.iload_n 3, 1) := by decide +kernel
theorem dX2_changeWorks_18 : decode cX2_changeWorks 18 = .ok (.iastore, 1) := by decide +kernel
theorem dX2_changeWorks_19 : decode cX2_changeWorks 19 = .ok (.iload 4, 2) := by decide +kernel
theorem dX2_changeWorks_21 : decode cX2_changeWorks 21 = .ok (.ireturn, 1) := by decide +kernel
set_option maxRecDepth 20000 in
theorem ggX2_worksWithout_X2_worksOf : GoodIn wsX2_worksWithout wsX2_worksOf := goodIn_r _ [6, 7, 8, 9, 10, 11, 12] (by decide +kernel) (by decide +kernel)
set_option maxRecDepth 20000 in
theorem gX2_worksWithout_X2_worksOf : GoodIn wsX2_worksWithout (wsV RX2 42 RX2 yX2_worksOf wsX2_worksOf) := goodIn_app (goodIn_of _ (by decide +kernel)) ggX2_worksWithout_X2_worksOf
theorem dX2_worksWithout_0 : decode cX2_worksWithout 0 = .ok (.iconst 0, 1) := by decide +kernel
theorem dX2_worksWithout_1 : decode cX2_worksWithout 1 = .ok (.istore_n 3, 1) := by decide +kernel
theorem dX2_worksWithout_2 : decode cX2_worksWithout 2 = .ok (.iconst 0, 1) := by decide +kernel
theorem dX2_worksWithout_3 : decode cX2_worksWithout 3 = .ok (.istore 4, 2) := by decide +kernel
theorem dX2_worksWithout_5 : decode cX2_worksWithout 5 = .ok (.iload 4, 2) := by decide +kernel
theorem dX2_worksWithout_7 : decode cX2_worksWithout 7 = .ok (.aload_n 0, 1) := by decide +kernel
theorem dX2_worksWithout_8 : decode cX2_worksWithout 8 = .ok (.getfield 18, 3) := by decide +kernel
theorem dX2_worksWithout_11 : decode cX2_worksWithout 11 = .ok (.iload_n 1, 1) := by decide +kernel
theorem dX2_worksWithout_12 : decode cX2_worksWithout 12 = .ok (.iaload, 1) := by decide +kernel
theorem dX2_worksWithout_13 : decode cX2_worksWithout 13 = .ok (.if_icmp .ge 28, 3) := by decide +kernel
theorem dX2_worksWithout_16 : decode cX2_worksWithout 16 = .ok (.iload_n 2, 1) := by decide +kernel
theorem dX2_worksWithout_17 : decode cX2_worksWithout 17 = .ok (.iload 4, 2) := by decide +kernel
theorem dX2_worksWithout_19 : decode cX2_worksWithout 19 = .ok (.ishr, 1) := by decide +kernel
theorem dX2_worksWithout_20 : decode cX2_worksWithout 20 = .ok (.iconst 1, 1) := by decide +kernel
theorem dX2_worksWithout_21 : decode cX2_worksWithout 21 = .ok (.iand, 1) := by decide +kernel
theorem dX2_worksWithout_22 : decode cX2_worksWithout 22 = .ok (.ifCond .ne 13, 3) := by decide +kernel
theorem dX2_worksWithout_25 : decode cX2_worksWithout 25 = .ok (.iload_n 3, 1) := by decide +kernel
theorem dX2_worksWithout_26 : decode cX2_worksWithout 26 = .ok (.aload_n 0, 1) := by decide +kernel
theorem dX2_worksWithout_27 : decode cX2_worksWithout 27 = .ok (.iload_n 1, 1) := by decide +kernel
theorem dX2_worksWithout_28 : decode cX2_worksWithout 28 = .ok (.iload 4, 2) := by decide +kernel
theorem dX2_worksWithout_30 : decode cX2_worksWithout 30 = .ok (.invokevirtual 42, 3) := by decide +kernel
theorem dX2_worksWithout_33 : decode cX2_worksWithout 33 = .ok (.ior, 1) := by decide +kernel
theorem dX2_worksWithout_34 : decode cX2_worksWithout 34 = .ok (.istore_n 3, 1) := by decide +kernel
theorem dX2_worksWithout_35 : decode cX2_worksWithout 35 = .ok (.iinc 4 1, 3) := by decide +kernel
theorem dX2_worksWithout_38 : decode cX2_worksWithout 38 = .ok (.goto (-33), 3) := by decide +kernel
theorem dX2_worksWithout_41 : decode cX2_worksWithout 41 = .ok (.iload_n 3, 1) := by decide +kernel
theorem dX2_worksWithout_42 : decode cX2_worksWithout 42 = .ok (.ireturn, 1) := by decide +kernel
theorem dX2_yearOf_0 : decode cX2_yearOf 0 = .ok (.sipush 1600, 3) := by decide +kernel
theorem dX2_yearOf_3 : decode cX2_yearOf 3 = .ok (.istore_n 3, 1) := by decide +kernel
theorem dX2_yearOf_4 : decode cX2_yearOf 4 = .ok (.sipush 1950, 3) := by decide +kernel
theorem dX2_yearOf_7 : decode cX2_yearOf 7 = .ok (.istore 4, 2) := by decide +kernel
theorem dX2_yearOf_9 : decode cX2_yearOf 9 = .ok (.iconst 0, 1) := by decide +kernel
theorem dX2_yearOf_10 : decode cX2_yearOf 10 = .ok (.istore 5, 2) := by decide +kernel
theorem dX2_yearOf_12 : decode cX2_yearOf 12 = .ok (.iload 5, 2) := by decide +kernel
theorem dX2_yearOf_14 : decode cX2_yearOf 14 = .ok (.bipush 10, 2) := by decide +kernel
theorem dX2_yearOf_16 : decode cX2_yearOf 16 = .ok (.if_icmp .ge 45, 3) := by decide +kernel
theorem dX2_yearOf_19 : decode cX2_yearOf 19 = .ok (.iload_n 1, 1) := by decide +kernel
theorem dX2_yearOf_20 : decode cX2_yearOf 20 = .ok (.iload 5, 2) := by decide +kernel
theorem dX2_yearOf_22 : decode cX2_yearOf 22 = .ok (.ishr, 1) := by decide +kernel
theorem dX2_yearOf_23 : decode cX2_yearOf 23 = .ok (.iconst 1, 1) := by decide +kernel
theorem dX2_yearOf_24 : decode cX2_yearOf 24 = .ok (.iand, 1) := by decide +kernel
theorem dX2_yearOf_25 : decode cX2_yearOf 25 = .ok (.iconst 1, 1) := by decide +kernel
theorem dX2_yearOf_26 : decode cX2_yearOf 26 = .ok (.if_icmp .ne 29, 3) := by decide +kernel
theorem dX2_yearOf_29 : decode cX2_yearOf 29 = .ok (.iload_n 3, 1) := by decide +kernel
theorem dX2_yearOf_30 : decode cX2_yearOf 30 = .ok (.aload_n 0, 1) := by decide +kernel
theorem dX2_yearOf_31 : decode cX2_yearOf 31 = .ok (.getfield 9, 3) := by decide +kernel
theorem dX2_yearOf_34 : decode cX2_yearOf 34 = .ok (.iload 5, 2) := by decide +kernel
theorem dX2_yearOf_36 : decode cX2_yearOf 36 = .ok (.iaload, 1) := by decide +kernel
theorem dX2_yearOf_37 : decode cX2_yearOf 37 = .ok (.invokestatic 46, 3) := by decide +kernel
theorem dX2_yearOf_40 : decode cX2_yearOf 40 = .ok (.istore_n 3, 1) := by decide +kernel
theorem dX2_yearOf_41 : decode cX2_yearOf 41 = .ok (.iload 4, 2) := by decide +kernel
theorem dX2_yearOf_43 : decode cX2_yearOf 43 = .ok (.aload_n 0, 1) := by decide +kernel
theorem dX2_yearOf_44 : decode cX2_yearOf 44 = .ok (.getfield 15, 3) := by decide +kernel
theorem dX2_yearOf_47 : decode cX2_yearOf 47 = .ok (.iload 5, 2) := by decide +kernel
theorem dX2_yearOf_49 : decode cX2_yearOf 49 = .ok (.iaload, 1) := by decide +kernel
theorem dX2_yearOf_50 : decode cX2_yearOf 50 = .ok (.invokestatic 51, 3) := by decide +kernel
theorem dX2_yearOf_53 : decode cX2_yearOf 53 = .ok (.istore 4, 2) := by decide +kernel
theorem dX2_yearOf_55 : decode cX2_yearOf 55 = .ok (.iinc 5 1, 3) := by decide +kernel
theorem dX2_yearOf_58 : decode cX2_yearOf 58 = .ok (.goto (-46), 3) := by decide +kernel
theorem dX2_yearOf_61 : decode cX2_yearOf 61 = .ok (.iload_n 3, 1) := by decide +kernel
theorem dX2_yearOf_62 : decode cX2_yearOf 62 = .ok (.iload 4, 2) := by decide +kernel
theorem dX2_yearOf_64 : decode cX2_yearOf 64 = .ok (.if_icmp .le 5, 3) := by decide +kernel
theorem dX2_yearOf_67 : decode cX2_yearOf 67 = .ok (.iconst (-1), 1) := by decide +kernel
theorem dX2_yearOf_68 : decode cX2_yearOf 68 = .ok (.ireturn, 1) := by decide +kernel
theorem dX2_yearOf_69 : decode cX2_yearOf 69 = .ok (.iload_n 2, 1) := by decide +kernel
theorem dX2_yearOf_70 : decode cX2_yearOf 70 = .ok (.ifCond .ne 7, 3) := by decide +kernel
theorem dX2_yearOf_73 : decode cX2_yearOf 73 = .ok (.iload_n 3, 1) := by decide +kernel
theorem dX2_yearOf_74 : decode cX2_yearOf 74 = .ok (.goto 5, 3) := by decide +kernel
theorem dX2_yearOf_77 : decode cX2_yearOf 77 = .ok (.iload 4, 2) := by decide +kernel
theorem dX2_yearOf_79 : decode cX2_yearOf 79 = .ok (.ireturn, 1) := by decide +kernel
set_option maxRecDepth 20000 in
theorem ggX2_strangers_J6_bitCount_0f7a4 : GoodIn wsX2_strangers wsJ6_bitCount_0f7a4 := goodIn_r _ [5, 6, 7, 8] (by decide +kernel) (by decide +kernel)
set_option maxRecDepth 20000 in
theorem gX2_strangers_J6_bitCount_0f7a4 : GoodIn wsX2_strangers (va_wsS RX2 54 yJ6_bitCount_0f7a4 wsJ6_bitCount_0f7a4) := goodIn_app (goodIn_of _ (by decide +kernel)) ggX2_strangers_J6_bitCount_0f7a4
set_option maxRecDepth 20000 in
theorem ggX2_strangers_X2_worksWithout : GoodIn wsX2_strangers wsX2_worksWithout := goodIn_r _ [13, 1, 14, 15, 16, 12, 17, 18, 32, 33, 34, 35, 36] (by decide +kernel) (by decide +kernel)
set_option maxRecDepth 20000 in
theorem gX2_strangers_X2_worksWithout : GoodIn wsX2_strangers (wsV RX2 60 RX2 yX2_worksWithout wsX2_worksWithout) := goodIn_app (goodIn_of _ (by decide +kernel)) ggX2_strangers_X2_worksWithout
set_option maxRecDepth 20000 in
theorem ggX2_strangers_X2_yearOf : GoodIn wsX2_strangers wsX2_yearOf := goodIn_r _ [22, 23, 24, 25, 26, 27, 28, 29, 30, 31, 32, 33, 34, 35, 36] (by decide +kernel) (by decide +kernel)
set_option maxRecDepth 20000 in
theorem gX2_strangers_X2_yearOf : GoodIn wsX2_strangers (wsV RX2 63 RX2 yX2_yearOf wsX2_yearOf) := goodIn_app (goodIn_of _ (by decide +kernel)) ggX2_strangers_X2_yearOf
theorem dX2_strangers_0 : decode cX2_strangers 0 = .ok (.iconst 1, 1) := by decide +kernel
theorem dX2_strangers_1 : decode cX2_strangers 1 = .ok (.aload_n 0, 1) := by decide +kernel
theorem dX2_strangers_2 : decode cX2_strangers 2 = .ok (.getfield 18, 3) := by decide +kernel
theorem dX2_strangers_5 : decode cX2_strangers 5 = .ok (.iload_n 1, 1) := by decide +kernel
theorem dX2_strangers_6 : decode cX2_strangers 6 = .ok (.iaload, 1) := by decide +kernel
theorem dX2_strangers_7 : decode cX2_strangers 7 = .ok (.ishl, 1) := by decide +kernel
theorem dX2_strangers_8 : decode cX2_strangers 8 = .ok (.iconst 1, 1) := by decide +kernel
theorem dX2_strangers_9 : decode cX2_strangers 9 = .ok (.isub, 1) := by decide +kernel
theorem dX2_strangers_10 : decode cX2_strangers 10 = .ok (.istore_n 2, 1) := by decide +kernel
theorem dX2_strangers_11 : decode cX2_strangers 11 = .ok (.iconst (-1), 1) := by decide +kernel
theorem dX2_strangers_12 : decode cX2_strangers 12 = .ok (.istore_n 3, 1) := by decide +kernel
theorem dX2_strangers_13 : decode cX2_strangers 13 = .ok (.iconst 0, 1) := by decide +kernel
theorem dX2_strangers_14 : decode cX2_strangers 14 = .ok (.istore 4, 2) := by decide +kernel
theorem dX2_strangers_16 : decode cX2_strangers 16 = .ok (.iload 4, 2) := by decide +kernel
theorem dX2_strangers_18 : decode cX2_strangers 18 = .ok (.iload_n 2, 1) := by decide +kernel
theorem dX2_strangers_19 : decode cX2_strangers 19 = .ok (.if_icmp .ge 57, 3) := by decide +kernel
theorem dX2_strangers_22 : decode cX2_strangers 22 = .ok (.iload_n 3, 1) := by decide +kernel
theorem dX2_strangers_23 : decode cX2_strangers 23 = .ok (.iconst (-1), 1) := by decide +kernel
theorem dX2_strangers_24 : decode cX2_strangers 24 = .ok (.if_icmp .eq 15, 3) := by decide +kernel
theorem dX2_strangers_27 : decode cX2_strangers 27 = .ok (.iload 4, 2) := by decide +kernel
theorem dX2_strangers_29 : decode cX2_strangers 29 = .ok (.invokestatic 54, 3) := by decide +kernel
theorem dX2_strangers_32 : decode cX2_strangers 32 = .ok (.iload_n 3, 1) := by decide +kernel
theorem dX2_strangers_33 : decode cX2_strangers 33 = .ok (.invokestatic 54, 3) := by decide +kernel
theorem dX2_strangers_36 : decode cX2_strangers 36 = .ok (.if_icmp .ge 7, 3) := by decide +kernel
theorem dX2_strangers_39 : decode cX2_strangers 39 = .ok (.iconst 1, 1) := by decide +kernel
theorem dX2_strangers_40 : decode cX2_strangers 40 = .ok (.goto 4, 3) := by decide +kernel
theorem dX2_strangers_43 : decode cX2_strangers 43 = .ok (.iconst 0, 1) := by decide +kernel
theorem dX2_strangers_44 : decode cX2_strangers 44 = .ok (.istore 5, 2) := by decide +kernel
theorem dX2_strangers_46 : decode cX2_strangers 46 = .ok (.iload 5, 2) := by decide +kernel
theorem dX2_strangers_48 : decode cX2_strangers 48 = .ok (.ifCond .eq 22, 3) := by decide +kernel
theorem dX2_strangers_51 : decode cX2_strangers 51 = .ok (.aload_n 0, 1) := by decide +kernel
theorem dX2_strangers_52 : decode cX2_strangers 52 = .ok (.aload_n 0, 1) := by decide +kernel
theorem dX2_strangers_53 : decode cX2_strangers 53 = .ok (.iload_n 1, 1) := by decide +kernel
theorem dX2_strangers_54 : decode cX2_strangers 54 = .ok (.iload 4, 2) := by decide +kernel
theorem dX2_strangers_56 : decode cX2_strangers 56 = .ok (.invokevirtual 60, 3) := by decide +kernel
theorem dX2_strangers_59 : decode cX2_strangers 59 = .ok (.iconst 0, 1) := by decide +kernel
theorem dX2_strangers_60 : decode cX2_strangers 60 = .ok (.invokevirtual 63, 3) := by decide +kernel
theorem dX2_strangers_63 : decode cX2_strangers 63 = .ok (.iconst (-1), 1) := by decide +kernel
theorem dX2_strangers_64 : decode cX2_strangers 64 = .ok (.if_icmp .eq 6, 3) := by decide +kernel
theorem dX2_strangers_67 : decode cX2_strangers 67 = .ok (.iload 4, 2) := by decide +kernel
theorem dX2_strangers_69 : decode cX2_strangers 69 = .ok (.istore_n 3, 1) := by decide +kernel
theorem dX2_strangers_70 : decode cX2_strangers 70 = .ok (.iinc 4 1, 3) := by decide +kernel
theorem dX2_strangers_73 : decode cX2_strangers 73 = .ok (.goto (-57), 3) := by decide +kernel
theorem dX2_strangers_76 : decode cX2_strangers 76 = .ok (.iload_n 3, 1) := by decide +kernel
theorem dX2_strangers_77 : decode cX2_strangers 77 = .ok (.ireturn, 1) := by decide +kernel
set_option maxRecDepth 20000 in
theorem ggX2_mixWorks_X5_mix : GoodIn wsX2_mixWorks wsX5_mix := goodIn_r _ [5, 6] (by decide +kernel) (by decide +kernel)
set_option maxRecDepth 20000 in
theorem gX2_mixWorks_X5_mix_n66 : GoodIn wsX2_mixWorks (wsX5_mix) := ggX2_mixWorks_X5_mix
theorem dX2_mixWorks_0 : decode cX2_mixWorks 0 = .ok (.lload_n 1, 1) := by decide +kernel
theorem dX2_mixWorks_1 : decode cX2_mixWorks 1 = .ok (.lstore_n 3, 1) := by decide +kernel
theorem dX2_mixWorks_2 : decode cX2_mixWorks 2 = .ok (.iconst 0, 1) := by decide +kernel
theorem dX2_mixWorks_3 : decode cX2_mixWorks 3 = .ok (.istore 5, 2) := by decide +kernel
theorem dX2_mixWorks_5 : decode cX2_mixWorks 5 = .ok (.iload 5, 2) := by decide +kernel
theorem dX2_mixWorks_7 : decode cX2_mixWorks 7 = .ok (.bipush 10, 2) := by decide +kernel
theorem dX2_mixWorks_9 : decode cX2_mixWorks 9 = .ok (.if_icmp .ge 33, 3) := by decide +kernel
theorem dX2_mixWorks_12 : decode cX2_mixWorks 12 = .ok (.lload_n 3, 1) := by decide +kernel
theorem dX2_mixWorks_13 : decode cX2_mixWorks 13 = .ok (.aload_n 0, 1) := by decide +kernel
theorem dX2_mixWorks_14 : decode cX2_mixWorks 14 = .ok (.getfield 9, 3) := by decide +kernel
theorem dX2_mixWorks_17 : decode cX2_mixWorks 17 = .ok (.iload 5, 2) := by decide +kernel
theorem dX2_mixWorks_19 : decode cX2_mixWorks 19 = .ok (.iaload, 1) := by decide +kernel
theorem dX2_mixWorks_20 : decode cX2_mixWorks 20 = .ok (.invokestatic 66, 3) := by decide +kernel
theorem dX2_mixWorks_23 : decode cX2_mixWorks 23 = .ok (.lstore_n 3, 1) := by decide +kernel
theorem dX2_mixWorks_24 : decode cX2_mixWorks 24 = .ok (.lload_n 3, 1) := by decide +kernel
theorem dX2_mixWorks_25 : decode cX2_mixWorks 25 = .ok (.aload_n 0, 1) := by decide +kernel
theorem dX2_mixWorks_26 : decode cX2_mixWorks 26 = .ok (.getfield 15, 3) := by decide +kernel
theorem dX2_mixWorks_29 : decode cX2_mixWorks 29 = .ok (.iload 5, 2) := by decide +kernel
theorem dX2_mixWorks_31 : decode cX2_mixWorks 31 = .ok (.iaload, 1) := by decide +kernel
theorem dX2_mixWorks_32 : decode cX2_mixWorks 32 = .ok (.invokestatic 66, 3) := by decide +kernel
theorem dX2_mixWorks_35 : decode cX2_mixWorks 35 = .ok (.lstore_n 3, 1) := by decide +kernel
theorem dX2_mixWorks_36 : decode cX2_mixWorks 36 = .ok (.iinc 5 1, 3) := by decide +kernel
theorem dX2_mixWorks_39 : decode cX2_mixWorks 39 = .ok (.goto (-34), 3) := by decide +kernel
theorem dX2_mixWorks_42 : decode cX2_mixWorks 42 = .ok (.lload_n 3, 1) := by decide +kernel
theorem dX2_mixWorks_43 : decode cX2_mixWorks 43 = .ok (.lreturn, 1) := by decide +kernel
set_option maxRecDepth 20000 in
theorem ggX2_mixParts_X5_mix : GoodIn wsX2_mixParts wsX5_mix := goodIn_r _ [4, 5] (by decide +kernel) (by decide +kernel)
set_option maxRecDepth 20000 in
theorem gX2_mixParts_X5_mix_n66 : GoodIn wsX2_mixParts (wsX5_mix) := ggX2_mixParts_X5_mix
set_option maxRecDepth 20000 in
theorem ggX2_mixParts_X2_worksOf : GoodIn wsX2_mixParts wsX2_worksOf := goodIn_r _ [10, 11, 12, 13, 14, 15, 16] (by decide +kernel) (by decide +kernel)
set_option maxRecDepth 20000 in
theorem gX2_mixParts_X2_worksOf : GoodIn wsX2_mixParts (wsV RX2 42 RX2 yX2_worksOf wsX2_worksOf) := goodIn_app (goodIn_of _ (by decide +kernel)) ggX2_mixParts_X2_worksOf
theorem dX2_mixParts_0 : decode cX2_mixParts 0 = .ok (.lload_n 1, 1) := by decide +kernel
theorem dX2_mixParts_1 : decode cX2_mixParts 1 = .ok (.aload_n 0, 1) := by decide +kernel
theorem dX2_mixParts_2 : decode cX2_mixParts 2 = .ok (.getfield 18, 3) := by decide +kernel
theorem dX2_mixParts_5 : decode cX2_mixParts 5 = .ok (.iload_n 3, 1) := by decide +kernel
theorem dX2_mixParts_6 : decode cX2_mixParts 6 = .ok (.iaload, 1) := by decide +kernel
theorem dX2_mixParts_7 : decode cX2_mixParts 7 = .ok (.invokestatic 66, 3) := by decide +kernel
theorem dX2_mixParts_10 : decode cX2_mixParts 10 = .ok (.lstore 4, 2) := by decide +kernel
theorem dX2_mixParts_12 : decode cX2_mixParts 12 = .ok (.iconst 0, 1) := by decide +kernel
theorem dX2_mixParts_13 : decode cX2_mixParts 13 = .ok (.istore 6, 2) := by decide +kernel
theorem dX2_mixParts_15 : decode cX2_mixParts 15 = .ok (.iload 6, 2) := by decide +kernel
theorem dX2_mixParts_17 : decode cX2_mixParts 17 = .ok (.aload_n 0, 1) := by decide +kernel
theorem dX2_mixParts_18 : decode cX2_mixParts 18 = .ok (.getfield 18, 3) := by decide +kernel
theorem dX2_mixParts_21 : decode cX2_mixParts 21 = .ok (.iload_n 3, 1) := by decide +kernel
theorem dX2_mixParts_22 : decode cX2_mixParts 22 = .ok (.iaload, 1) := by decide +kernel
theorem dX2_mixParts_23 : decode cX2_mixParts 23 = .ok (.if_icmp .ge 23, 3) := by decide +kernel
theorem dX2_mixParts_26 : decode cX2_mixParts 26 = .ok (.lload 4, 2) := by decide +kernel
theorem dX2_mixParts_28 : decode cX2_mixParts 28 = .ok (.aload_n 0, 1) := by decide +kernel
theorem dX2_mixParts_29 : decode cX2_mixParts 29 = .ok (.iload_n 3, 1) := by decide +kernel
theorem dX2_mixParts_30 : decode cX2_mixParts 30 = .ok (.iload 6, 2) := by decide +kernel
theorem dX2_mixParts_32 : decode cX2_mixParts 32 = .ok (.invokevirtual 42, 3) := by decide +kernel
theorem dX2_mixParts_35 : decode cX2_mixParts 35 = .ok (.invokestatic 66, 3) := by decide +kernel
theorem dX2_mixParts_38 : decode cX2_mixParts 38 = .ok (.lstore 4, 2) := by decide +kernel
theorem dX2_mixParts_40 : decode cX2_mixParts 40 = .ok (.iinc 6 1, 3) := by decide +kernel
theorem dX2_mixParts_43 : decode cX2_mixParts 43 = .ok (.goto (-28), 3) := by decide +kernel
theorem dX2_mixParts_46 : decode cX2_mixParts 46 = .ok (.lload 4, 2) := by decide +kernel
theorem dX2_mixParts_48 : decode cX2_mixParts 48 = .ok (.lreturn, 1) := by decide +kernel
theorem dX3_init_0 : decode cX3_init 0 = .ok (.aload_n 0, 1) := by decide +kernel
theorem dX3_init_1 : decode cX3_init 1 = .ok (.invokespecial 3, 3) := by decide +kernel
theorem dX3_init_4 : decode cX3_init 4 = .ok (.aload_n 0, 1) := by decide +kernel
theorem dX3_init_5 : decode cX3_init 5 = .ok (.bipush 10, 2) := by decide +kernel
theorem dX3_init_7 : decode cX3_init 7 = .ok (.newarray .int, 2) := by decide +kernel
theorem dX3_init_9 : decode cX3_init 9 = .ok (.putfield 9, 3) := by decide +kernel
theorem dX3_init_12 : decode cX3_init 12 = .ok (.aload_n 0, 1) := by decide +kernel
theorem dX3_init_13 : decode cX3_init 13 = .ok (.bipush 12, 2) := by decide +kernel
theorem dX3_init_15 : decode cX3_init 15 = .ok (.newarray .int, 2) := by decide +kernel
theorem dX3_init_17 : decode cX3_init 17 = .ok (.putfield 15, 3) := by decide +kernel
theorem dX3_init_20 : decode cX3_init 20 = .ok (.aload_n 0, 1) := by decide +kernel
theorem dX3_init_21 : decode cX3_init 21 = .ok (.bipush 12, 2) := by decide +kernel
theorem dX3_init_23 : decode cX3_init 23 = .ok (.newarray .int, 2) := by decide +kernel
theorem dX3_init_25 : decode cX3_init 25 = .ok (.putfield 18, 3) := by decide +kernel
theorem dX3_init_28 : decode cX3_init 28 = .ok (.aload_n 0, 1) := by decide +kernel
theorem dX3_init_29 : decode cX3_init 29 = .ok (.bipush 64, 2) := by decide +kernel
theorem dX3_init_31 : decode cX3_init 31 = .ok (.newarray .int, 2) := by decide +kernel
theorem dX3_init_33 : decode cX3_init 33 = .ok (.putfield 21, 3) := by decide +kernel
theorem dX3_init_36 : decode cX3_init 36 = .ok (.aload_n 0, 1) := by decide +kernel
theorem dX3_init_37 : decode cX3_init 37 = .ok (.bipush 6, 2) := by decide +kernel
theorem dX3_init_39 : decode cX3_init 39 = .ok (.newarray .int, 2) := by decide +kernel
theorem dX3_init_41 : decode cX3_init 41 = .ok (.putfield 24, 3) := by decide +kernel
theorem dX3_init_44 : decode cX3_init 44 = .ok (.aload_n 0, 1) := by decide +kernel
theorem dX3_init_45 : decode cX3_init 45 = .ok (.iconst 0, 1) := by decide +kernel
theorem dX3_init_46 : decode cX3_init 46 = .ok (.putfield 27, 3) := by decide +kernel
theorem dX3_init_49 : decode cX3_init 49 = .ok (.return_, 1) := by decide +kernel
theorem dX3_addEntry_0 : decode cX3_addEntry 0 = .ok (.aload_n 0, 1) := by decide +kernel
theorem dX3_addEntry_1 : decode cX3_addEntry 1 = .ok (.getfield 27, 3) := by decide +kernel
theorem dX3_addEntry_4 : decode cX3_addEntry 4 = .ok (.bipush 10, 2) := by decide +kernel
theorem dX3_addEntry_6 : decode cX3_addEntry 6 = .ok (.if_icmp .lt 6, 3) := by decide +kernel
theorem dX3_addEntry_9 : decode cX3_addEntry 9 = .ok (.bipush (-4), 2) := by decide +kernel
theorem dX3_addEntry_11 : decode cX3_addEntry 11 = .ok (.ireturn, 1) := by decide +kernel
theorem dX3_addEntry_12 : decode cX3_addEntry 12 = .ok (.aload_n 0, 1) := by decide +kernel
theorem dX3_addEntry_13 : decode cX3_addEntry 13 = .ok (.getfield 9, 3) := by decide +kernel
theorem dX3_addEntry_16 : decode cX3_addEntry 16 = .ok (.aload_n 0, 1) := by decide +kernel
theorem dX3_addEntry_17 : decode cX3_addEntry 17 = .ok (.getfield 27, 3) := by decide +kernel
theorem dX3_addEntry_20 : decode cX3_addEntry 20 = .ok (.iload_n 1, 1) := by decide +kernel
theorem dX3_addEntry_21 : decode cX3_addEntry 21 = .ok (.iastore, 1) := by decide +kernel
theorem dX3_addEntry_22 : decode cX3_addEntry 22 = .ok (.aload_n 0, 1) := by decide +kernel
theorem dX3_addEntry_23 : decode cX3_addEntry 23 = .ok (.dup, 1) := by decide +kernel
theorem dX3_addEntry_24 : decode cX3_addEntry 24 = .ok (.getfield 27, 3) := by decide +kernel
theorem dX3_addEntry_27 : decode cX3_addEntry 27 = .ok (.iconst 1, 1) := by decide +kernel
theorem dX3_addEntry_28 : decode cX3_addEntry 28 = .ok (.iadd, 1) := by decide +kernel
theorem dX3_addEntry_29 : decode cX3_addEntry 29 = .ok (.putfield 27, 3) := by decide +kernel
theorem dX3_addEntry_32 : decode cX3_addEntry 32 = .ok (.aload_n 0, 1) := by decide +kernel
theorem dX3_addEntry_33 : decode cX3_addEntry 33 = .ok (.getfield 27, 3) := by decide +kernel
theorem dX3_addEntry_36 : decode cX3_addEntry 36 = .ok (.iconst 1, 1) := by decide +kernel
theorem dX3_addEntry_37 : decode cX3_addEntry 37 = .ok (.isub, 1) := by decide +kernel
theorem dX3_addEntry_38 : decode cX3_addEntry 38 = .ok (.ireturn, 1) := by decide +kernel
theorem dX3_entryCount_0 : decode cX3_entryCount 0 = .ok (.aload_n 0, 1) := by decide +kernel
theorem dX3_entryCount_1 : decode cX3_entryCount 1 = .ok (.getfield 27, 3) := by decide +kernel
theorem dX3_entryCount_4 : decode cX3_entryCount 4 = .ok (.ireturn, 1) := by decide +kernel
set_option maxRecDepth 20000 in
theorem ggX3_hasEntry_X5_within : GoodIn wsX3_hasEntry wsX5_within := goodIn_r _ [4] (by decide +kernel) (by decide +kernel)
set_option maxRecDepth 20000 in
theorem gX3_hasEntry_X5_within_n31 : GoodIn wsX3_hasEntry (wsX5_within) := ggX3_hasEntry_X5_within
theorem dX3_hasEntry_0 : decode cX3_hasEntry 0 = .ok (.iload_n 1, 1) := by decide +kernel
theorem dX3_hasEntry_1 : decode cX3_hasEntry 1 = .ok (.iconst 0, 1) := by decide +kernel
theorem dX3_hasEntry_2 : decode cX3_hasEntry 2 = .ok (.aload_n 0, 1) := by decide +kernel
theorem dX3_hasEntry_3 : decode cX3_hasEntry 3 = .ok (.getfield 27, 3) := by decide +kernel
theorem dX3_hasEntry_6 : decode cX3_hasEntry 6 = .ok (.iconst 1, 1) := by decide +kernel
theorem dX3_hasEntry_7 : decode cX3_hasEntry 7 = .ok (.isub, 1) := by decide +kernel
theorem dX3_hasEntry_8 : decode cX3_hasEntry 8 = .ok (.invokestatic 31, 3) := by decide +kernel
theorem dX3_hasEntry_11 : decode cX3_hasEntry 11 = .ok (.ireturn, 1) := by decide +kernel
theorem dX3_changeMark_0 : decode cX3_changeMark 0 = .ok (.iconst 1, 1) := by decide +kernel
theorem dX3_changeMark_1 : decode cX3_changeMark 1 = .ok (.iload_n 2, 1) := by decide +kernel
theorem dX3_changeMark_2 : decode cX3_changeMark 2 = .ok (.ishl, 1) := by decide +kernel
theorem dX3_changeMark_3 : decode cX3_changeMark 3 = .ok (.istore 4, 2) := by decide +kernel
theorem dX3_changeMark_5 : decode cX3_changeMark 5 = .ok (.aload_n 0, 1) := by decide +kernel
theorem dX3_changeMark_6 : decode cX3_changeMark 6 = .ok (.getfield 15, 3) := by decide +kernel
theorem dX3_changeMark_9 : decode cX3_changeMark 9 = .ok (.iload_n 1, 1) := by decide +kernel
theorem dX3_changeMark_10 : decode cX3_changeMark 10 = .ok (.iaload, 1) := by decide +kernel
theorem dX3_changeMark_11 : decode cX3_changeMark 11 = .ok (.iload 4, 2) := by decide +kernel
theorem dX3_changeMark_13 : decode cX3_changeMark 13 = .ok (.iand, 1) := by decide +kernel
theorem dX3_changeMark_14 : decode cX3_changeMark 14 = .ok (.ifCond .eq 7, 3) := by decide +kernel
theorem dX3_changeMark_17 : decode cX3_changeMark 17 = .ok (.iconst 1, 1) := by decide +kernel
theorem dX3_changeMark_18 : decode cX3_changeMark 18 = .ok (.goto 20, 3) := by decide +kernel
theorem dX3_changeMark_21 : decode cX3_changeMark 21 = .ok (.aload_n 0, 1) := by decide +kernel
theorem dX3_changeMark_22 : decode cX3_changeMark 22 = .ok (.getfield 18, 3) := by decide +kernel
theorem dX3_changeMark_25 : decode cX3_changeMark 25 = .ok (.iload_n 1, 1) := by decide +kernel
theorem dX3_changeMark_26 : decode cX3_changeMark 26 = .ok (.iaload, 1) := by decide +kernel
theorem dX3_changeMark_27 : decode cX3_changeMark 27 = .ok (.iload 4, 2) := by decide +kernel
theorem dX3_changeMark_29 : decode cX3_changeMark 29 = .ok (.iand, 1) := by decide +kernel
theorem dX3_changeMark_30 : decode cX3_changeMark 30 = .ok (.ifCond .eq 7, 3) := by decide +kernel
theorem dX3_changeMark_33 : decode cX3_changeMark 33 = .ok (.iconst 2, 1) := by decide +kernel
theorem dX3_changeMark_34 : decode cX3_changeMark 34 = .ok (.goto 4, 3) := by decide +kernel
theorem dX3_changeMark_37 : decode cX3_changeMark 37 = .ok (.iconst 0, 1) := by decide +kernel
theorem dX3_changeMark_38 : decode cX3_changeMark 38 = .ok (.istore 5, 2) := by decide +kernel
theorem dX3_changeMark_40 : decode cX3_changeMark 40 = .ok (.aload_n 0, 1) := by decide +kernel
theorem dX3_changeMark_41 : decode cX3_changeMark 41 = .ok (.getfield 15, 3) := by decide +kernel
theorem dX3_changeMark_44 : decode cX3_changeMark 44 = .ok (.iload_n 1, 1) := by decide +kernel
theorem dX3_changeMark_45 : decode cX3_changeMark 45 = .ok (.iload_n 3, 1) := by decide +kernel
theorem dX3_changeMark_46 : decode cX3_changeMark 46 = .ok (.iconst 1, 1) := by decide +kernel
theorem dX3_changeMark_47 : decode cX3_changeMark 47 = .ok (.if_icmp .ne 15, 3) := by decide +kernel
theorem dX3_changeMark_50 : decode cX3_changeMark 50 = .ok (.aload_n 0, 1) := by decide +kernel
theorem dX3_changeMark_51 : decode cX3_changeMark 51 = .ok (.getfield 15, 3) := by decide +kernel
theorem dX3_changeMark_54 : decode cX3_changeMark 54 = .ok (.iload_n 1, 1) := by decide +kernel
theorem dX3_changeMark_55 : decode cX3_changeMark 55 = .ok (.iaload, 1) := by decide +kernel
theorem dX3_changeMark_56 : decode cX3_changeMark 56 = .ok (.iload 4, 2) := by decide +kernel
theorem dX3_changeMark_58 : decode cX3_changeMark 58 = .ok (.ior, 1) := by decide +kernel
theorem dX3_changeMark_59 : decode cX3_changeMark 59 = .ok (.goto 14, 3) := by decide +kernel
theorem dX3_changeMark_62 : decode cX3_changeMark 62 = .ok (.aload_n 0, 1) := by decide +kernel
theorem dX3_changeMark_63 : decode cX3_changeMark 63 = .ok (.getfield 15, 3) := by decide +kernel
theorem dX3_changeMark_66 : decode cX3_changeMark 66 = .ok (.iload_n 1, 1) := by decide +kernel
theorem dX3_changeMark_67 : decode cX3_changeMark 67 = .ok (.iaload, 1) := by decide +kernel
theorem dX3_changeMark_68 : decode cX3_changeMark 68 = .ok (.iload 4, 2) := by decide +kernel
theorem dX3_changeMark_70 : decode cX3_changeMark 70 = .ok (.iconst (-1), 1) := by decide +kernel
theorem dX3_changeMark_71 : decode cX3_changeMark 71 = .ok (.ixor, 1) := by decide +kernel
theorem dX3_changeMark_72 : decode cX3_changeMark 72 = .ok (.iand, 1) := by decide +kernel
theorem dX3_changeMark_73 : decode cX3_changeMark 73 = .ok (.iastore, 1) := by decide +kernel
theorem dX3_changeMark_74 : decode cX3_changeMark 74 = .ok (.aload_n 0, 1) := by decide +kernel
theorem dX3_changeMark_75 : decode cX3_changeMark 75 = .ok (.getfield 18, 3) := by decide +kernel
theorem dX3_changeMark_78 : decode cX3_changeMark 78 = .ok (.iload_n 1, 1) := by decide +kernel
theorem dX3_changeMark_79 : decode cX3_changeMark 79 = .ok (.iload_n 3, 1) := by decide +kernel
theorem dX3_changeMark_80 : decode cX3_changeMark 80 = .ok (.iconst 2, 1) := by decide +kernel
theorem dX3_changeMark_81 : decode cX3_changeMark 81 = .ok (.if_icmp .ne 15, 3) := by decide +kernel
theorem dX3_changeMark_84 : decode cX3_changeMark 84 = .ok (.aload_n 0, 1) := by decide +kernel
theorem dX3_changeMark_85 : decode cX3_changeMark 85 = .ok (.getfield 18, 3) := by decide +kernel
theorem dX3_changeMark_88 : decode cX3_changeMark 88 = .ok (.iload_n 1, 1) := by decide +kernel
theorem dX3_changeMark_89 : decode cX3_changeMark 89 = .ok (.iaload, 1) := by decide +kernel
theorem dX3_changeMark_90 : decode cX3_changeMark 90 = .ok (.iload 4, 2) := by decide +kernel
theorem dX3_changeMark_92 : decode cX3_changeMark 92 = .ok (.ior, 1) := by decide +kernel
theorem dX3_changeMark_93 : decode cX3_changeMark 93 = .ok (.goto 14, 3) := by decide +kernel
theorem dX3_changeMark_96 : decode cX3_changeMark 96 = .ok (.aload_n 0, 1) := by decide +kernel
theorem dX3_changeMark_97 : decode cX3_changeMark 97 = .ok (.getfield 18, 3) := by decide +kernel
theorem dX3_changeMark_100 : decode cX3_changeMark 100 = .ok (.iload_n 1, 1) := by decide +kernel
theorem dX3_changeMark_101 : decode cX3_changeMark 101 = .ok (.iaload, 1) := by decide +kernel
theorem dX3_changeMark_102 : decode cX3_changeMark 102 = .ok (.iload 4, 2) := by decide +kernel
theorem dX3_changeMark_104 : decode cX3_changeMark 104 = .ok (.iconst (-1), 1) := by decide +kernel
theorem dX3_changeMark_105 : decode cX3_changeMark 105 = .ok (.ixor, 1) := by decide +kernel
theorem dX3_changeMark_106 : decode cX3_changeMark 106 = .ok (.iand, 1) := by decide +kernel
theorem dX3_changeMark_107 : decode cX3_changeMark 107 = .ok (.iastore, 1) := by decide +kernel
theorem dX3_changeMark_108 : decode cX3_changeMark 108 = .ok (.iload 5, 2) := by decide +kernel
theorem dX3_changeMark_110 : decode cX3_changeMark 110 = .ok (.ireturn, 1) := by decide +kernel
set_option maxRecDepth 20000 in
theorem ggX3_scoreOf_J6_bitCount_0f7a4 : GoodIn wsX3_scoreOf wsJ6_bitCount_0f7a4 := goodIn_r _ [7, 8, 9, 10] (by decide +kernel) (by decide +kernel)
set_option maxRecDepth 20000 in
theorem gX3_scoreOf_J6_bitCount_0f7a4 : GoodIn wsX3_scoreOf (va_wsS RX3 35 yJ6_bitCount_0f7a4 wsJ6_bitCount_0f7a4) := goodIn_app (goodIn_of _ (by decide +kernel)) ggX3_scoreOf_J6_bitCount_0f7a4
theorem dX3_scoreOf_0 : decode cX3_scoreOf 0 = .ok (.aload_n 0, 1) := by decide +kernel
theorem dX3_scoreOf_1 : decode cX3_scoreOf 1 = .ok (.getfield 9, 3) := by decide +kernel
theorem dX3_scoreOf_4 : decode cX3_scoreOf 4 = .ok (.iload_n 1, 1) := by decide +kernel
theorem dX3_scoreOf_5 : decode cX3_scoreOf 5 = .ok (.iaload, 1) := by decide +kernel
theorem dX3_scoreOf_6 : decode cX3_scoreOf 6 = .ok (.istore_n 3, 1) := by decide +kernel
theorem dX3_scoreOf_7 : decode cX3_scoreOf 7 = .ok (.iconst 2, 1) := by decide +kernel
theorem dX3_scoreOf_8 : decode cX3_scoreOf 8 = .ok (.iload_n 3, 1) := by decide +kernel
theorem dX3_scoreOf_9 : decode cX3_scoreOf 9 = .ok (.aload_n 0, 1) := by decide +kernel
theorem dX3_scoreOf_10 : decode cX3_scoreOf 10 = .ok (.getfield 15, 3) := by decide +kernel
theorem dX3_scoreOf_13 : decode cX3_scoreOf 13 = .ok (.iload_n 2, 1) := by decide +kernel
theorem dX3_scoreOf_14 : decode cX3_scoreOf 14 = .ok (.iaload, 1) := by decide +kernel
theorem dX3_scoreOf_15 : decode cX3_scoreOf 15 = .ok (.iand, 1) := by decide +kernel
theorem dX3_scoreOf_16 : decode cX3_scoreOf 16 = .ok (.invokestatic 35, 3) := by decide +kernel
theorem dX3_scoreOf_19 : decode cX3_scoreOf 19 = .ok (.imul, 1) := by decide +kernel
theorem dX3_scoreOf_20 : decode cX3_scoreOf 20 = .ok (.iconst 3, 1) := by decide +kernel
theorem dX3_scoreOf_21 : decode cX3_scoreOf 21 = .ok (.iload_n 3, 1) := by decide +kernel
theorem dX3_scoreOf_22 : decode cX3_scoreOf 22 = .ok (.aload_n 0, 1) := by decide +kernel
theorem dX3_scoreOf_23 : decode cX3_scoreOf 23 = .ok (.getfield 18, 3) := by decide +kernel
theorem dX3_scoreOf_26 : decode cX3_scoreOf 26 = .ok (.iload_n 2, 1) := by decide +kernel
theorem dX3_scoreOf_27 : decode cX3_scoreOf 27 = .ok (.iaload, 1) := by decide +kernel
theorem dX3_scoreOf_28 : decode cX3_scoreOf 28 = .ok (.iand, 1) := by decide +kernel
theorem dX3_scoreOf_29 : decode cX3_scoreOf 29 = .ok (.invokestatic 35, 3) := by decide +kernel
theorem dX3_scoreOf_32 : decode cX3_scoreOf 32 = .ok (.imul, 1) := by decide +kernel
theorem dX3_scoreOf_33 : decode cX3_scoreOf 33 = .ok (.isub, 1) := by decide +kernel
theorem dX3_scoreOf_34 : decode cX3_scoreOf 34 = .ok (.aload_n 0, 1) := by decide +kernel
theorem dX3_scoreOf_35 : decode cX3_scoreOf 35 = .ok (.getfield 15, 3) := by decide +kernel
theorem dX3_scoreOf_38 : decode cX3_scoreOf 38 = .ok (.iload_n 2, 1) := by decide +kernel
theorem dX3_scoreOf_39 : decode cX3_scoreOf 39 = .ok (.iaload, 1) := by decide +kernel
theorem dX3_scoreOf_40 : decode cX3_scoreOf 40 = .ok (.iload_n 3, 1) := by decide +kernel
theorem dX3_scoreOf_41 : decode cX3_scoreOf 41 = .ok (.iconst (-1), 1) := by decide +kernel
theorem dX3_scoreOf_42 : decode cX3_scoreOf 42 = .ok (.ixor, 1) := by decide +kernel
theorem dX3_scoreOf_43 : decode cX3_scoreOf 43 = .ok (.iand, 1) := by decide +kernel
theorem dX3_scoreOf_44 : decode cX3_scoreOf 44 = .ok (.invokestatic 35, 3) := by decide +kernel
theorem dX3_scoreOf_47 : decode cX3_scoreOf 47 = .ok (.isub, 1) := by decide +kernel
theorem dX3_scoreOf_48 : decode cX3_scoreOf 48 = .ok (.ireturn, 1) := by decide +kernel
theorem dX3_isJoinable_0 : decode cX3_isJoinable 0 = .ok (.aload_n 0, 1) := by decide +kernel
theorem dX3_isJoinable_1 : decode cX3_isJoinable 1 = .ok (.getfield 27, 3) := by decide +kernel
theorem dX3_isJoinable_4 : decode cX3_isJoinable 4 = .ok (.bipush 6, 2) := by decide +kernel
theorem dX3_isJoinable_6 : decode cX3_isJoinable 6 = .ok (.if_icmp .gt 7, 3) := by decide +kernel
theorem dX3_isJoinable_9 : decode cX3_isJoinable 9 = .ok (.iconst 1, 1) := by decide +kernel
theorem dX3_isJoinable_10 : decode cX3_isJoinable 10 = .ok (.goto 4, 3) := by decide +kernel
theorem dX3_isJoinable_13 : decode cX3_isJoinable 13 = .ok (.iconst 0, 1) := by decide +kernel
theorem dX3_isJoinable_14 : decode cX3_isJoinable 14 = .ok (.ireturn, 1) := by decide +kernel
set_option maxRecDepth 20000 in
theorem ggX3_bestJoin_J7_fill_53178 : GoodIn wsX3_bestJoin wsJ7_fill_53178 := goodIn_r _ [10] (by decide +kernel) (by decide +kernel)
set_option maxRecDepth 20000 in
theorem gX3_bestJoin_J7_fill_53178 : GoodIn wsX3_bestJoin (va_wsS RX3 47 yJ7_fill_53178 wsJ7_fill_53178) := goodIn_app (goodIn_of _ (by decide +kernel)) ggX3_bestJoin_J7_fill_53178
set_option maxRecDepth 20000 in
theorem ggX3_bestJoin_X3_weigh : GoodIn wsX3_bestJoin wsX3_weigh := goodIn_r _ [15, 16, 17, 18, 19, 20, 21, 14, 22, 1, 23, 24, 25, 26, 27, 28, 29, 30, 31, 32, 33, 34, 35, 36, 37, 38, 39, 47, 48, 49, 50, 51, 52] (by decide +kernel) (by decide +kernel)
set_option maxRecDepth 20000 in
theorem gX3_bestJoin_X3_weigh : GoodIn wsX3_bestJoin (wsV RX3 53 RX3 yX3_weigh wsX3_weigh) := goodIn_app (goodIn_of _ (by decide +kernel)) ggX3_bestJoin_X3_weigh
set_option maxRecDepth 20000 in
theorem ggX3_bestJoin_X3_bestWithThing : GoodIn wsX3_bestJoin wsX3_bestWithThing := goodIn_r _ [43, 6, 16, 44, 45, 4, 46, 47, 48, 49, 50, 51, 52] (by decide +kernel) (by decide +kernel)
set_option maxRecDepth 20000 in
theorem gX3_bestJoin_X3_bestWithThing : GoodIn wsX3_bestJoin (wsV RX3 57 RX3 yX3_bestWithThing wsX3_bestWithThing) := goodIn_app (goodIn_of _ (by decide +kernel)) ggX3_bestJoin_X3_bestWithThing
theorem dX3_bestJoin_0 : decode cX3_bestJoin 0 = .ok (.iconst 1, 1) := by decide +kernel
theorem dX3_bestJoin_1 : decode cX3_bestJoin 1 = .ok (.aload_n 0, 1) := by decide +kernel
theorem dX3_bestJoin_2 : decode cX3_bestJoin 2 = .ok (.getfield 27, 3) := by decide +kernel
theorem dX3_bestJoin_5 : decode cX3_bestJoin 5 = .ok (.bipush 6, 2) := by decide +kernel
theorem dX3_bestJoin_7 : decode cX3_bestJoin 7 = .ok (.invokestatic 41, 3) := by decide +kernel
theorem dX3_bestJoin_10 : decode cX3_bestJoin 10 = .ok (.ishl, 1) := by decide +kernel
theorem dX3_bestJoin_11 : decode cX3_bestJoin 11 = .ok (.istore_n 2, 1) := by decide +kernel
theorem dX3_bestJoin_12 : decode cX3_bestJoin 12 = .ok (.aload_n 0, 1) := by decide +kernel
theorem dX3_bestJoin_13 : decode cX3_bestJoin 13 = .ok (.getfield 21, 3) := by decide +kernel
theorem dX3_bestJoin_16 : decode cX3_bestJoin 16 = .ok (.iconst 0, 1) := by decide +kernel
theorem dX3_bestJoin_17 : decode cX3_bestJoin 17 = .ok (.invokestatic 47, 3) := by decide +kernel
theorem dX3_bestJoin_20 : decode cX3_bestJoin 20 = .ok (.iconst 0, 1) := by decide +kernel
theorem dX3_bestJoin_21 : decode cX3_bestJoin 21 = .ok (.istore_n 3, 1) := by decide +kernel
theorem dX3_bestJoin_22 : decode cX3_bestJoin 22 = .ok (.iload_n 3, 1) := by decide +kernel
theorem dX3_bestJoin_23 : decode cX3_bestJoin 23 = .ok (.iload_n 1, 1) := by decide +kernel
theorem dX3_bestJoin_24 : decode cX3_bestJoin 24 = .ok (.if_icmp .ge 43, 3) := by decide +kernel
theorem dX3_bestJoin_27 : decode cX3_bestJoin 27 = .ok (.aload_n 0, 1) := by decide +kernel
theorem dX3_bestJoin_28 : decode cX3_bestJoin 28 = .ok (.iload_n 3, 1) := by decide +kernel
theorem dX3_bestJoin_29 : decode cX3_bestJoin 29 = .ok (.invokevirtual 53, 3) := by decide +kernel
theorem dX3_bestJoin_32 : decode cX3_bestJoin 32 = .ok (.iload_n 2, 1) := by decide +kernel
theorem dX3_bestJoin_33 : decode cX3_bestJoin 33 = .ok (.iconst 1, 1) := by decide +kernel
theorem dX3_bestJoin_34 : decode cX3_bestJoin 34 = .ok (.isub, 1) := by decide +kernel
theorem dX3_bestJoin_35 : decode cX3_bestJoin 35 = .ok (.istore 4, 2) := by decide +kernel
theorem dX3_bestJoin_37 : decode cX3_bestJoin 37 = .ok (.iload 4, 2) := by decide +kernel
theorem dX3_bestJoin_39 : decode cX3_bestJoin 39 = .ok (.ifCond .le 22, 3) := by decide +kernel
theorem dX3_bestJoin_42 : decode cX3_bestJoin 42 = .ok (.aload_n 0, 1) := by decide +kernel
theorem dX3_bestJoin_43 : decode cX3_bestJoin 43 = .ok (.getfield 21, 3) := by decide +kernel
theorem dX3_bestJoin_46 : decode cX3_bestJoin 46 = .ok (.iload 4, 2) := by decide +kernel
theorem dX3_bestJoin_48 : decode cX3_bestJoin 48 = .ok (.aload_n 0, 1) := by decide +kernel
theorem dX3_bestJoin_49 : decode cX3_bestJoin 49 = .ok (.iload 4, 2) := by decide +kernel
theorem dX3_bestJoin_51 : decode cX3_bestJoin 51 = .ok (.invokevirtual 57, 3) := by decide +kernel
theorem dX3_bestJoin_54 : decode cX3_bestJoin 54 = .ok (.iastore, 1) := by decide +kernel
theorem dX3_bestJoin_55 : decode cX3_bestJoin 55 = .ok (.iinc 4 (-1), 3) := by decide +kernel
theorem dX3_bestJoin_58 : decode cX3_bestJoin 58 = .ok (.goto (-21), 3) := by decide +kernel
theorem dX3_bestJoin_61 : decode cX3_bestJoin 61 = .ok (.iinc 3 1, 3) := by decide +kernel
theorem dX3_bestJoin_64 : decode cX3_bestJoin 64 = .ok (.goto (-42), 3) := by decide +kernel
theorem dX3_bestJoin_67 : decode cX3_bestJoin 67 = .ok (.aload_n 0, 1) := by decide +kernel
theorem dX3_bestJoin_68 : decode cX3_bestJoin 68 = .ok (.getfield 21, 3) := by decide +kernel
theorem dX3_bestJoin_71 : decode cX3_bestJoin 71 = .ok (.iload_n 2, 1) := by decide +kernel
theorem dX3_bestJoin_72 : decode cX3_bestJoin 72 = .ok (.iconst 1, 1) := by decide +kernel
theorem dX3_bestJoin_73 : decode cX3_bestJoin 73 = .ok (.isub, 1) := by decide +kernel
theorem dX3_bestJoin_74 : decode cX3_bestJoin 74 = .ok (.iaload, 1) := by decide +kernel
theorem dX3_bestJoin_75 : decode cX3_bestJoin 75 = .ok (.ireturn, 1) := by decide +kernel
set_option maxRecDepth 20000 in
theorem ggX3_weigh_X3_hasEntry : GoodIn wsX3_weigh wsX3_hasEntry := goodIn_r _ [8, 9, 10, 11, 12, 27, 28, 29, 30, 31, 32] (by decide +kernel) (by decide +kernel)
set_option maxRecDepth 20000 in
theorem gX3_weigh_X3_hasEntry : GoodIn wsX3_weigh (wsV RX3 60 RX3 yX3_hasEntry wsX3_hasEntry) := goodIn_app (goodIn_of _ (by decide +kernel)) ggX3_weigh_X3_hasEntry
set_option maxRecDepth 20000 in
theorem ggX3_weigh_X3_scoreOf : GoodIn wsX3_weigh wsX3_scoreOf := goodIn_r _ [16, 17, 18, 19, 20, 21, 22, 23, 24, 25, 26, 27, 28, 29, 30, 31, 32] (by decide +kernel) (by decide +kernel)
set_option maxRecDepth 20000 in
theorem gX3_weigh_X3_scoreOf : GoodIn wsX3_weigh (wsV RX3 64 RX3 yX3_scoreOf wsX3_scoreOf) := goodIn_app (goodIn_of _ (by decide +kernel)) ggX3_weigh_X3_scoreOf
theorem dX3_weigh_0 : decode cX3_weigh 0 = .ok (.iconst 0, 1) := by decide +kernel
theorem dX3_weigh_1 : decode cX3_weigh 1 = .ok (.istore_n 2, 1) := by decide +kernel
theorem dX3_weigh_2 : decode cX3_weigh 2 = .ok (.iload_n 2, 1) := by decide +kernel
theorem dX3_weigh_3 : decode cX3_weigh 3 = .ok (.bipush 6, 2) := by decide +kernel
theorem dX3_weigh_5 : decode cX3_weigh 5 = .ok (.if_icmp .ge 57, 3) := by decide +kernel
theorem dX3_weigh_8 : decode cX3_weigh 8 = .ok (.aload_n 0, 1) := by decide +kernel
theorem dX3_weigh_9 : decode cX3_weigh 9 = .ok (.iload_n 2, 1) := by decide +kernel
theorem dX3_weigh_10 : decode cX3_weigh 10 = .ok (.invokevirtual 60, 3) := by decide +kernel
theorem dX3_weigh_13 : decode cX3_weigh 13 = .ok (.ifCond .eq 12, 3) := by decide +kernel
theorem dX3_weigh_16 : decode cX3_weigh 16 = .ok (.aload_n 0, 1) := by decide +kernel
theorem dX3_weigh_17 : decode cX3_weigh 17 = .ok (.iload_n 2, 1) := by decide +kernel
theorem dX3_weigh_18 : decode cX3_weigh 18 = .ok (.iload_n 1, 1) := by decide +kernel
theorem dX3_weigh_19 : decode cX3_weigh 19 = .ok (.invokevirtual 64, 3) := by decide +kernel
theorem dX3_weigh_22 : decode cX3_weigh 22 = .ok (.goto 4, 3) := by decide +kernel
theorem dX3_weigh_25 : decode cX3_weigh 25 = .ok (.iconst 0, 1) := by decide +kernel
theorem dX3_weigh_26 : decode cX3_weigh 26 = .ok (.istore_n 3, 1) := by decide +kernel
theorem dX3_weigh_27 : decode cX3_weigh 27 = .ok (.aload_n 0, 1) := by decide +kernel
theorem dX3_weigh_28 : decode cX3_weigh 28 = .ok (.getfield 24, 3) := by decide +kernel
theorem dX3_weigh_31 : decode cX3_weigh 31 = .ok (.iload_n 2, 1) := by decide +kernel
theorem dX3_weigh_32 : decode cX3_weigh 32 = .ok (.iload_n 3, 1) := by decide +kernel
theorem dX3_weigh_33 : decode cX3_weigh 33 = .ok (.ifCond .le 21, 3) := by decide +kernel
theorem dX3_weigh_36 : decode cX3_weigh 36 = .ok (.iload_n 3, 1) := by decide +kernel
theorem dX3_weigh_37 : decode cX3_weigh 37 = .ok (.ldc 67, 2) := by decide +kernel
theorem dX3_weigh_39 : decode cX3_weigh 39 = .ok (.imul, 1) := by decide +kernel
theorem dX3_weigh_40 : decode cX3_weigh 40 = .ok (.bipush 12, 2) := by decide +kernel
theorem dX3_weigh_42 : decode cX3_weigh 42 = .ok (.iload_n 1, 1) := by decide +kernel
theorem dX3_weigh_43 : decode cX3_weigh 43 = .ok (.isub, 1) := by decide +kernel
theorem dX3_weigh_44 : decode cX3_weigh 44 = .ok (.getstatic 68, 3) := by decide +kernel
theorem dX3_weigh_47 : decode cX3_weigh 47 = .ok (.iload_n 2, 1) := by decide +kernel
theorem dX3_weigh_48 : decode cX3_weigh 48 = .ok (.iaload, 1) := by decide +kernel
theorem dX3_weigh_49 : decode cX3_weigh 49 = .ok (.imul, 1) := by decide +kernel
theorem dX3_weigh_50 : decode cX3_weigh 50 = .ok (.iadd, 1) := by decide +kernel
theorem dX3_weigh_51 : decode cX3_weigh 51 = .ok (.goto 4, 3) := by decide +kernel
theorem dX3_weigh_54 : decode cX3_weigh 54 = .ok (.iconst 0, 1) := by decide +kernel
theorem dX3_weigh_55 : decode cX3_weigh 55 = .ok (.iastore, 1) := by decide +kernel
theorem dX3_weigh_56 : decode cX3_weigh 56 = .ok (.iinc 2 1, 3) := by decide +kernel
theorem dX3_weigh_59 : decode cX3_weigh 59 = .ok (.goto (-57), 3) := by decide +kernel
theorem dX3_weigh_62 : decode cX3_weigh 62 = .ok (.return_, 1) := by decide +kernel
theorem dX3_bestWithThing_0 : decode cX3_bestWithThing 0 = .ok (.aload_n 0, 1) := by decide +kernel
theorem dX3_bestWithThing_1 : decode cX3_bestWithThing 1 = .ok (.getfield 21, 3) := by decide +kernel
theorem dX3_bestWithThing_4 : decode cX3_bestWithThing 4 = .ok (.iload_n 1, 1) := by decide +kernel
theorem dX3_bestWithThing_5 : decode cX3_bestWithThing 5 = .ok (.iaload, 1) := by decide +kernel
theorem dX3_bestWithThing_6 : decode cX3_bestWithThing 6 = .ok (.istore_n 2, 1) := by decide +kernel
theorem dX3_bestWithThing_7 : decode cX3_bestWithThing 7 = .ok (.iconst 0, 1) := by decide +kernel
theorem dX3_bestWithThing_8 : decode cX3_bestWithThing 8 = .ok (.istore_n 3, 1) := by decide +kernel
theorem dX3_bestWithThing_9 : decode cX3_bestWithThing 9 = .ok (.iload_n 3, 1) := by decide +kernel
theorem dX3_bestWithThing_10 : decode cX3_bestWithThing 10 = .ok (.bipush 6, 2) := by decide +kernel
theorem dX3_bestWithThing_12 : decode cX3_bestWithThing 12 = .ok (.if_icmp .ge 40, 3) := by decide +kernel
theorem dX3_bestWithThing_15 : decode cX3_bestWithThing 15 = .ok (.iload_n 1, 1) := by decide +kernel
theorem dX3_bestWithThing_16 : decode cX3_bestWithThing 16 = .ok (.iload_n 3, 1) := by decide +kernel
theorem dX3_bestWithThing_17 : decode cX3_bestWithThing 17 = .ok (.ishr, 1) := by decide +kernel
theorem dX3_bestWithThing_18 : decode cX3_bestWithThing 18 = .ok (.iconst 1, 1) := by decide +kernel
theorem dX3_bestWithThing_19 : decode cX3_bestWithThing 19 = .ok (.iand, 1) := by decide +kernel
theorem dX3_bestWithThing_20 : decode cX3_bestWithThing 20 = .ok (.iconst 1, 1) := by decide +kernel
theorem dX3_bestWithThing_21 : decode cX3_bestWithThing 21 = .ok (.if_icmp .ne 25, 3) := by decide +kernel
theorem dX3_bestWithThing_24 : decode cX3_bestWithThing 24 = .ok (.iload_n 2, 1) := by decide +kernel
theorem dX3_bestWithThing_25 : decode cX3_bestWithThing 25 = .ok (.aload_n 0, 1) := by decide +kernel
theorem dX3_bestWithThing_26 : decode cX3_bestWithThing 26 = .ok (.getfield 21, 3) := by decide +kernel
theorem dX3_bestWithThing_29 : decode cX3_bestWithThing 29 = .ok (.iload_n 1, 1) := by decide +kernel
theorem dX3_bestWithThing_30 : decode cX3_bestWithThing 30 = .ok (.iconst 1, 1) := by decide +kernel
theorem dX3_bestWithThing_31 : decode cX3_bestWithThing 31 = .ok (.iload_n 3, 1) := by decide +kernel
theorem dX3_bestWithThing_32 : decode cX3_bestWithThing 32 = .ok (.ishl, 1) := by decide +kernel
theorem dX3_bestWithThing_33 : decode cX3_bestWithThing 33 = .ok (.ixor, 1) := by decide +kernel
theorem dX3_bestWithThing_34 : decode cX3_bestWithThing 34 = .ok (.iaload, 1) := by decide +kernel
theorem dX3_bestWithThing_35 : decode cX3_bestWithThing 35 = .ok (.aload_n 0, 1) := by decide +kernel
theorem dX3_bestWithThing_36 : decode cX3_bestWithThing 36 = .ok (.getfield 24, 3) := by decide +kernel
theorem dX3_bestWithThing_39 : decode cX3_bestWithThing 39 = .ok (.iload_n 3, 1) := by decide +kernel
theorem dX3_bestWithThing_40 : decode cX3_bestWithThing 40 = .ok (.iaload, 1) := by decide +kernel
theorem dX3_bestWithThing_41 : decode cX3_bestWithThing 41 = .ok (.iadd, 1) := by decide +kernel
theorem dX3_bestWithThing_42 : decode cX3_bestWithThing 42 = .ok (.invokestatic 71, 3) := by decide +kernel
theorem dX3_bestWithThing_45 : decode cX3_bestWithThing 45 = .ok (.istore_n 2, 1) := by decide +kernel
theorem dX3_bestWithThing_46 : decode cX3_bestWithThing 46 = .ok (.iinc 3 1, 3) := by decide +kernel
theorem dX3_bestWithThing_49 : decode cX3_bestWithThing 49 = .ok (.goto (-40), 3) := by decide +kernel
theorem dX3_bestWithThing_52 : decode cX3_bestWithThing 52 = .ok (.iload_n 2, 1) := by decide +kernel
theorem dX3_bestWithThing_53 : decode cX3_bestWithThing 53 = .ok (.ireturn, 1) := by decide +kernel
theorem dX3_sumIn_0 : decode cX3_sumIn 0 = .ok (.iload_n 0, 1) := by decide +kernel
theorem dX3_sumIn_1 : decode cX3_sumIn 1 = .ok (.ldc 67, 2) := by decide +kernel
theorem dX3_sumIn_3 : decode cX3_sumIn 3 = .ok (.idiv, 1) := by decide +kernel
theorem dX3_sumIn_4 : decode cX3_sumIn 4 = .ok (.ireturn, 1) := by decide +kernel
set_option maxRecDepth 20000 in
theorem ggX3_thingIn_X5_within : GoodIn wsX3_thingIn wsX5_within := goodIn_r _ [4] (by decide +kernel) (by decide +kernel)
set_option maxRecDepth 20000 in
theorem gX3_thingIn_X5_within_n31 : GoodIn wsX3_thingIn (wsX5_within) := ggX3_thingIn_X5_within
theorem dX3_thingIn_0 : decode cX3_thingIn 0 = .ok (.iload_n 1, 1) := by decide +kernel
theorem dX3_thingIn_1 : decode cX3_thingIn 1 = .ok (.iconst 0, 1) := by decide +kernel
theorem dX3_thingIn_2 : decode cX3_thingIn 2 = .ok (.iconst 5, 1) := by decide +kernel
theorem dX3_thingIn_3 : decode cX3_thingIn 3 = .ok (.invokestatic 31, 3) := by decide +kernel
theorem dX3_thingIn_6 : decode cX3_thingIn 6 = .ok (.ifCond .ne 5, 3) := by decide +kernel
theorem dX3_thingIn_9 : decode cX3_thingIn 9 = .ok (.iconst (-1), 1) := by decide +kernel
theorem dX3_thingIn_10 : decode cX3_thingIn 10 = .ok (.ireturn, 1) := by decide +kernel
theorem dX3_thingIn_11 : decode cX3_thingIn 11 = .ok (.iload_n 0, 1) := by decide +kernel
theorem dX3_thingIn_12 : decode cX3_thingIn 12 = .ok (.getstatic 68, 3) := by decide +kernel
theorem dX3_thingIn_15 : decode cX3_thingIn 15 = .ok (.iload_n 1, 1) := by decide +kernel
theorem dX3_thingIn_16 : decode cX3_thingIn 16 = .ok (.iaload, 1) := by decide +kernel
theorem dX3_thingIn_17 : decode cX3_thingIn 17 = .ok (.idiv, 1) := by decide +kernel
theorem dX3_thingIn_18 : decode cX3_thingIn 18 = .ok (.bipush 13, 2) := by decide +kernel
theorem dX3_thingIn_20 : decode cX3_thingIn 20 = .ok (.irem, 1) := by decide +kernel
theorem dX3_thingIn_21 : decode cX3_thingIn 21 = .ok (.istore_n 2, 1) := by decide +kernel
theorem dX3_thingIn_22 : decode cX3_thingIn 22 = .ok (.iload_n 2, 1) := by decide +kernel
theorem dX3_thingIn_23 : decode cX3_thingIn 23 = .ok (.ifCond .ne 7, 3) := by decide +kernel
theorem dX3_thingIn_26 : decode cX3_thingIn 26 = .ok (.iconst (-1), 1) := by decide +kernel
theorem dX3_thingIn_27 : decode cX3_thingIn 27 = .ok (.goto 7, 3) := by decide +kernel
theorem dX3_thingIn_30 : decode cX3_thingIn 30 = .ok (.bipush 12, 2) := by decide +kernel
theorem dX3_thingIn_32 : decode cX3_thingIn 32 = .ok (.iload_n 2, 1) := by decide +kernel
theorem dX3_thingIn_33 : decode cX3_thingIn 33 = .ok (.isub, 1) := by decide +kernel
theorem dX3_thingIn_34 : decode cX3_thingIn 34 = .ok (.ireturn, 1) := by decide +kernel
set_option maxRecDepth 20000 in
theorem ggX3_mixMarks_X5_mix : GoodIn wsX3_mixMarks wsX5_mix := goodIn_r _ [5, 6] (by decide +kernel) (by decide +kernel)
set_option maxRecDepth 20000 in
theorem gX3_mixMarks_X5_mix_n74 : GoodIn wsX3_mixMarks (wsX5_mix) := ggX3_mixMarks_X5_mix
theorem dX3_mixMarks_0 : decode cX3_mixMarks 0 = .ok (.lload_n 1, 1) := by decide +kernel
theorem dX3_mixMarks_1 : decode cX3_mixMarks 1 = .ok (.aload_n 0, 1) := by decide +kernel
theorem dX3_mixMarks_2 : decode cX3_mixMarks 2 = .ok (.getfield 15, 3) := by decide +kernel
theorem dX3_mixMarks_5 : decode cX3_mixMarks 5 = .ok (.iload_n 3, 1) := by decide +kernel
theorem dX3_mixMarks_6 : decode cX3_mixMarks 6 = .ok (.iaload, 1) := by decide +kernel
theorem dX3_mixMarks_7 : decode cX3_mixMarks 7 = .ok (.invokestatic 74, 3) := by decide +kernel
theorem dX3_mixMarks_10 : decode cX3_mixMarks 10 = .ok (.aload_n 0, 1) := by decide +kernel
theorem dX3_mixMarks_11 : decode cX3_mixMarks 11 = .ok (.getfield 18, 3) := by decide +kernel
theorem dX3_mixMarks_14 : decode cX3_mixMarks 14 = .ok (.iload_n 3, 1) := by decide +kernel
theorem dX3_mixMarks_15 : decode cX3_mixMarks 15 = .ok (.iaload, 1) := by decide +kernel
theorem dX3_mixMarks_16 : decode cX3_mixMarks 16 = .ok (.invokestatic 74, 3) := by decide +kernel
theorem dX3_mixMarks_19 : decode cX3_mixMarks 19 = .ok (.lreturn, 1) := by decide +kernel
set_option maxRecDepth 20000 in
theorem ggX3_mixEntries_X5_mix : GoodIn wsX3_mixEntries wsX5_mix := goodIn_r _ [5, 6] (by decide +kernel) (by decide +kernel)
set_option maxRecDepth 20000 in
theorem gX3_mixEntries_X5_mix_n74 : GoodIn wsX3_mixEntries (wsX5_mix) := ggX3_mixEntries_X5_mix
theorem dX3_mixEntries_0 : decode cX3_mixEntries 0 = .ok (.lload_n 1, 1) := by decide +kernel
theorem dX3_mixEntries_1 : decode cX3_mixEntries 1 = .ok (.lstore_n 3, 1) := by decide +kernel
theorem dX3_mixEntries_2 : decode cX3_mixEntries 2 = .ok (.iconst 0, 1) := by decide +kernel
theorem dX3_mixEntries_3 : decode cX3_mixEntries 3 = .ok (.istore 5, 2) := by decide +kernel
theorem dX3_mixEntries_5 : decode cX3_mixEntries 5 = .ok (.iload 5, 2) := by decide +kernel
theorem dX3_mixEntries_7 : decode cX3_mixEntries 7 = .ok (.aload_n 0, 1) := by decide +kernel
theorem dX3_mixEntries_8 : decode cX3_mixEntries 8 = .ok (.getfield 27, 3) := by decide +kernel
theorem dX3_mixEntries_11 : decode cX3_mixEntries 11 = .ok (.if_icmp .ge 21, 3) := by decide +kernel
theorem dX3_mixEntries_14 : decode cX3_mixEntries 14 = .ok (.lload_n 3, 1) := by decide +kernel
theorem dX3_mixEntries_15 : decode cX3_mixEntries 15 = .ok (.aload_n 0, 1) := by decide +kernel
theorem dX3_mixEntries_16 : decode cX3_mixEntries 16 = .ok (.getfield 9, 3) := by decide +kernel
theorem dX3_mixEntries_19 : decode cX3_mixEntries 19 = .ok (.iload 5, 2) := by decide +kernel
theorem dX3_mixEntries_21 : decode cX3_mixEntries 21 = .ok (.iaload, 1) := by decide +kernel
theorem dX3_mixEntries_22 : decode cX3_mixEntries 22 = .ok (.invokestatic 74, 3) := by decide +kernel
theorem dX3_mixEntries_25 : decode cX3_mixEntries 25 = .ok (.lstore_n 3, 1) := by decide +kernel
theorem dX3_mixEntries_26 : decode cX3_mixEntries 26 = .ok (.iinc 5 1, 3) := by decide +kernel
theorem dX3_mixEntries_29 : decode cX3_mixEntries 29 = .ok (.goto (-24), 3) := by decide +kernel
theorem dX3_mixEntries_32 : decode cX3_mixEntries 32 = .ok (.lload_n 3, 1) := by decide +kernel
theorem dX3_mixEntries_33 : decode cX3_mixEntries 33 = .ok (.lreturn, 1) := by decide +kernel
set_option maxRecDepth 20000 in
theorem ggX4_init_J7_fill_53178 : GoodIn wsX4_init wsJ7_fill_53178 := goodIn_r _ [15] (by decide +kernel) (by decide +kernel)
set_option maxRecDepth 20000 in
theorem gX4_init_J7_fill_53178 : GoodIn wsX4_init (va_wsS RX4 34 yJ7_fill_53178 wsJ7_fill_53178) := goodIn_app (goodIn_of _ (by decide +kernel)) ggX4_init_J7_fill_53178
theorem dX4_init_0 : decode cX4_init 0 = .ok (.aload_n 0, 1) := by decide +kernel
theorem dX4_init_1 : decode cX4_init 1 = .ok (.invokespecial 3, 3) := by decide +kernel
theorem dX4_init_4 : decode cX4_init 4 = .ok (.aload_n 0, 1) := by decide +kernel
theorem dX4_init_5 : decode cX4_init 5 = .ok (.bipush 12, 2) := by decide +kernel
theorem dX4_init_7 : decode cX4_init 7 = .ok (.newarray .int, 2) := by decide +kernel
theorem dX4_init_9 : decode cX4_init 9 = .ok (.putfield 9, 3) := by decide +kernel
theorem dX4_init_12 : decode cX4_init 12 = .ok (.aload_n 0, 1) := by decide +kernel
theorem dX4_init_13 : decode cX4_init 13 = .ok (.bipush 12, 2) := by decide +kernel
theorem dX4_init_15 : decode cX4_init 15 = .ok (.newarray .int, 2) := by decide +kernel
theorem dX4_init_17 : decode cX4_init 17 = .ok (.putfield 15, 3) := by decide +kernel
theorem dX4_init_20 : decode cX4_init 20 = .ok (.aload_n 0, 1) := by decide +kernel
theorem dX4_init_21 : decode cX4_init 21 = .ok (.bipush 12, 2) := by decide +kernel
theorem dX4_init_23 : decode cX4_init 23 = .ok (.newarray .int, 2) := by decide +kernel
theorem dX4_init_25 : decode cX4_init 25 = .ok (.putfield 18, 3) := by decide +kernel
theorem dX4_init_28 : decode cX4_init 28 = .ok (.aload_n 0, 1) := by decide +kernel
theorem dX4_init_29 : decode cX4_init 29 = .ok (.sipush 560, 3) := by decide +kernel
theorem dX4_init_32 : decode cX4_init 32 = .ok (.newarray .int, 2) := by decide +kernel
theorem dX4_init_34 : decode cX4_init 34 = .ok (.putfield 21, 3) := by decide +kernel
theorem dX4_init_37 : decode cX4_init 37 = .ok (.aload_n 0, 1) := by decide +kernel
theorem dX4_init_38 : decode cX4_init 38 = .ok (.bipush 80, 2) := by decide +kernel
theorem dX4_init_40 : decode cX4_init 40 = .ok (.newarray .int, 2) := by decide +kernel
theorem dX4_init_42 : decode cX4_init 42 = .ok (.putfield 24, 3) := by decide +kernel
theorem dX4_init_45 : decode cX4_init 45 = .ok (.aload_n 0, 1) := by decide +kernel
theorem dX4_init_46 : decode cX4_init 46 = .ok (.iconst 0, 1) := by decide +kernel
theorem dX4_init_47 : decode cX4_init 47 = .ok (.putfield 27, 3) := by decide +kernel
theorem dX4_init_50 : decode cX4_init 50 = .ok (.aload_n 0, 1) := by decide +kernel
theorem dX4_init_51 : decode cX4_init 51 = .ok (.iconst 4, 1) := by decide +kernel
theorem dX4_init_52 : decode cX4_init 52 = .ok (.putfield 31, 3) := by decide +kernel
theorem dX4_init_55 : decode cX4_init 55 = .ok (.aload_n 0, 1) := by decide +kernel
theorem dX4_init_56 : decode cX4_init 56 = .ok (.getfield 9, 3) := by decide +kernel
theorem dX4_init_59 : decode cX4_init 59 = .ok (.iconst (-1), 1) := by decide +kernel
theorem dX4_init_60 : decode cX4_init 60 = .ok (.invokestatic 34, 3) := by decide +kernel
theorem dX4_init_63 : decode cX4_init 63 = .ok (.aload_n 0, 1) := by decide +kernel
theorem dX4_init_64 : decode cX4_init 64 = .ok (.getfield 15, 3) := by decide +kernel
theorem dX4_init_67 : decode cX4_init 67 = .ok (.iconst (-1), 1) := by decide +kernel
theorem dX4_init_68 : decode cX4_init 68 = .ok (.invokestatic 34, 3) := by decide +kernel
theorem dX4_init_71 : decode cX4_init 71 = .ok (.aload_n 0, 1) := by decide +kernel
theorem dX4_init_72 : decode cX4_init 72 = .ok (.getfield 18, 3) := by decide +kernel
theorem dX4_init_75 : decode cX4_init 75 = .ok (.iconst (-1), 1) := by decide +kernel
theorem dX4_init_76 : decode cX4_init 76 = .ok (.invokestatic 34, 3) := by decide +kernel
theorem dX4_init_79 : decode cX4_init 79 = .ok (.return_, 1) := by decide +kernel
theorem dX4_holderOf_0 : decode cX4_holderOf 0 = .ok (.aload_n 0, 1) := by decide +kernel
theorem dX4_holderOf_1 : decode cX4_holderOf 1 = .ok (.getfield 9, 3) := by decide +kernel
theorem dX4_holderOf_4 : decode cX4_holderOf 4 = .ok (.iload_n 1, 1) := by decide +kernel
theorem dX4_holderOf_5 : decode cX4_holderOf 5 = .ok (.iaload, 1) := by decide +kernel
theorem dX4_holderOf_6 : decode cX4_holderOf 6 = .ok (.ireturn, 1) := by decide +kernel
theorem dX4_handOver_0 : decode cX4_handOver 0 = .ok (.aload_n 0, 1) := by decide +kernel
theorem dX4_handOver_1 : decode cX4_handOver 1 = .ok (.getfield 9, 3) := by decide +kernel
theorem dX4_handOver_4 : decode cX4_handOver 4 = .ok (.iload_n 1, 1) := by decide +kernel
theorem dX4_handOver_5 : decode cX4_handOver 5 = .ok (.iaload, 1) := by decide +kernel
theorem dX4_handOver_6 : decode cX4_handOver 6 = .ok (.istore_n 3, 1) := by decide +kernel
theorem dX4_handOver_7 : decode cX4_handOver 7 = .ok (.aload_n 0, 1) := by decide +kernel
theorem dX4_handOver_8 : decode cX4_handOver 8 = .ok (.getfield 9, 3) := by decide +kernel
theorem dX4_handOver_11 : decode cX4_handOver 11 = .ok (.iload_n 1, 1) := by decide +kernel
theorem dX4_handOver_12 : decode cX4_handOver 12 = .ok (.iload_n 2, 1) := by decide +kernel
theorem dX4_handOver_13 : decode cX4_handOver 13 = .ok (.iastore, 1) := by decide +kernel
theorem dX4_handOver_14 : decode cX4_handOver 14 = .ok (.aload_n 0, 1) := by decide +kernel
