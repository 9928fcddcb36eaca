theorem dX3_init_31 : decode cX3_init 31 = .ok (.newarray .int, 2) := by decide +kernel
theorem dX3_init_33 : decode cX3_init 33 = .ok (.putfield 21, 3) := by decide +kernel
theorem dX3_init_36 : decode cX3_init 36 = .ok (.aload_n 0, 1) := by decide +kernel
theorem dX3_init_37 : decode cX3_init 37 = .ok (.bipush 6, 2) := by decide +kernel
theorem dX3_init_39 : decode cX3_init 39 = .ok (.newarray .int, 2) := by decide +kernel
theorem dX3_init_41 : decode cX3_init 41 = .ok (.putfield 24, 3) := by decide +kernel
theorem dX3_init_44 : decode cX3_init 44 = .ok (.aload_n 0, 1) := by decide +kernel
theorem dX3_init_45 : decode cX3_init 45 = .ok (.iconst 0, 1) := by decide +kernel
theorem dX3_init_46 : decode cX3_init 46 = .ok (.putfield 27, 3) := by decide +kernel
theorem dX3_init_49 : decode cX3_init 49 = .ok (.return_, 1) := by decide +kernel
theorem dX3_addEntry_0 : decode cX3_addEntry 0 = .ok (.aload_n 0, 1) := by decide +kernel
theorem dX3_addEntry_1 : decode cX3_addEntry 1 = .ok (.getfield 27, 3) := by decide +kernel
theorem dX3_addEntry_4 : decode cX3_addEntry 4 = .ok (.bipush 10, 2) := by decide +kernel
theorem dX3_addEntry_6 : decode cX3_addEntry 6 = .ok (.if_icmp .lt 6, 3) := by decide +kernel
theorem dX3_addEntry_9 : decode cX3_addEntry 9 = .ok (.bipush (-4), 2) := by decide +kernel
theorem dX3_addEntry_11 : decode cX3_addEntry 11 = .ok (.ireturn, 1) := by decide +kernel
theorem dX3_addEntry_12 : decode cX3_addEntry 12 = .ok (.aload_n 0, 1) := by decide +kernel
theorem dX3_addEntry_13 : decode cX3_addEntry 13 = .ok (.getfield 9, 3) := by decide +kernel
theorem dX3_addEntry_16 : decode cX3_addEntry 16 = .ok (.aload_n 0, 1) := by decide +kernel
theorem dX3_addEntry_17 : decode cX3_addEntry 17 = .ok (.getfield 27, 3) := by decide +kernel
theorem dX3_addEntry_20 : decode cX3_addEntry 20 = .ok (.iload_n 1, 1) := by decide +kernel
theorem dX3_addEntry_21 : decode cX3_addEntry 21 = .ok (.iastore, 1) := by decide +kernel
theorem dX3_addEntry_22 : decode cX3_addEntry 22 = .ok (.aload_n 0, 1) := by decide +kernel
theorem dX3_addEntry_23 : decode cX3_addEntry 23 = .ok (.dup, 1) := by decide +kernel
theorem dX3_addEntry_24 : decode cX3_addEntry 24 = .ok (.getfield 27, 3) := by decide +kernel
theorem dX3_addEntry_27 : decode cX3_addEntry 27 = .ok (.iconst 1, 1) := by decide +kernel
theorem dX3_addEntry_28 : decode cX3_addEntry 28 = .ok (.iadd, 1) := by decide +kernel
theorem dX3_addEntry_29 : decode cX3_addEntry 29 = .ok (.putfield 27, 3) := by decide +kernel
theorem dX3_addEntry_32 : decode cX3_addEntry 32 = .ok (.aload_n 0, 1) := by decide +kernel
theorem dX3_addEntry_33 : decode cX3_addEntry 33 = .ok (.getfield 27, 3) := by decide +kernel
theorem dX3_addEntry_36 : decode cX3_addEntry 36 = .ok (.iconst 1, 1) := by decide +kernel
theorem dX3_addEntry_37 : decode cX3_addEntry 37 = .ok (.isub, 1) := by decide +kernel
theorem dX3_addEntry_38 : decode cX3_addEntry 38 = .ok (.ireturn, 1) := by decide +kernel
theorem dX3_entryCount_0 : decode cX3_entryCount 0 = .ok (.aload_n 0, 1) := by decide +kernel
theorem dX3_entryCount_1 : decode cX3_entryCount 1 = .ok (.getfield 27, 3) := by decide +kernel
theorem dX3_entryCount_4 : decode cX3_entryCount 4 = .ok (.ireturn, 1) := by decide +kernel
set_option maxRecDepth 20000 in
theorem ggX3_hasEntry_X5_within : GoodIn wsX3_hasEntry wsX5_within := goodIn_r _ [4] (by decide +kernel) (by decide +kernel)
set_option maxRecDepth 20000 in
theorem gX3_hasEntry_X5_within_n31 : GoodIn wsX3_hasEntry (wsX5_within) := ggX3_hasEntry_X5_within
theorem dX3_hasEntry_0 : decode cX3_hasEntry 0 = .ok (.iload_n 1, 1) := by decide +kernel
theorem dX3_hasEntry_1 : decode cX3_hasEntry 1 = .ok (.iconst 0, 1) := by decide +kernel
theorem dX3_hasEntry_2 : decode cX3_hasEntry 2 = .ok (.aload_n 0, 1) := by decide +kernel
theorem dX3_hasEntry_3 : decode cX3_hasEntry 3 = .ok (.getfield 27, 3) := by decide +kernel
theorem dX3_hasEntry_6 : decode cX3_hasEntry 6 = .ok (.iconst 1, 1) := by decide +kernel
theorem dX3_hasEntry_7 : decode cX3_hasEntry 7 = .ok (.isub, 1) := by decide +kernel
theorem dX3_hasEntry_8 : decode cX3_hasEntry 8 = .ok (.invokestatic 31, 3) := by decide +kernel
theorem dX3_hasEntry_11 : decode cX3_hasEntry 11 = .ok (.ireturn, 1) := by decide +kernel
theorem dX3_changeMark_0 : decode cX3_changeMark 0 = .ok (.iconst 1, 1) := by decide +kernel
theorem dX3_changeMark_1 : decode cX3_changeMark 1 = .ok (.iload_n 2, 1) := by decide +kernel
theorem dX3_changeMark_2 : decode cX3_changeMark 2 = .ok (.ishl, 1) := by decide +kernel
theorem dX3_changeMark_3 : decode cX3_changeMark 3 = .ok (.istore 4, 2) := by decide +kernel
theorem dX3_changeMark_5 : decode cX3_changeMark 5 = .ok (.aload_n 0, 1) := by decide +kernel
theorem dX3_changeMark_6 : decode cX3_changeMark 6 = .ok (.getfield 15, 3) := by decide +kernel
theorem dX3_changeMark_9 : decode cX3_changeMark 9 = .ok (.iload_n 1, 1) := by decide +kernel
theorem dX3_changeMark_10 : decode cX3_changeMark 10 = .ok (.iaload, 1) := by decide +kernel
theorem dX3_changeMark_11 : decode cX3_changeMark 11 = .ok (.iload 4, 2) := by decide +kernel
theorem dX3_changeMark_13 : decode cX3_changeMark 13 = .ok (.iand, 1) := by decide +kernel
theorem dX3_changeMark_14 : decode cX3_changeMark 14 = .ok (.ifCond .eq 7, 3) := by decide +kernel
theorem dX3_changeMark_17 : decode cX3_changeMark 17 = .ok (.iconst 1, 1) := by decide +kernel
theorem dX3_changeMark_18 : decode cX3_changeMark 18 = .ok (.goto 20, 3) := by decide +kernel
theorem dX3_changeMark_21 : decode cX3_changeMark 21 = .ok (.aload_n 0, 1) := by decide +kernel
theorem dX3_changeMark_22 : decode cX3_changeMark 22 = .ok (.getfield 18, 3) := by decide +kernel
theorem dX3_changeMark_25 : decode cX3_changeMark 25 = .ok (.iload_n 1, 1) := by decide +kernel
theorem dX3_changeMark_26 : decode cX3_changeMark 26 = .ok (.iaload, 1) := by decide +kernel
theorem dX3_changeMark_27 : decode cX3_changeMark 27 = .ok (.iload 4, 2) := by decide +kernel
theorem dX3_changeMark_29 : decode cX3_changeMark 29 = .ok (.iand, 1) := by decide +kernel
theorem dX3_changeMark_30 : decode cX3_changeMark 30 = .ok (.ifCond .eq 7, 3) := by decide +kernel
theorem dX3_changeMark_33 : decode cX3_changeMark 33 = .ok (.iconst 2, 1) := by decide +kernel
theorem dX3_changeMark_34 : decode cX3_changeMark 34 = .ok (.goto 4, 3) := by decide +kernel
theorem dX3_changeMark_37 : decode cX3_changeMark 37 = .ok (.iconst 0, 1) := by decide +kernel
theorem dX3_changeMark_38 : decode cX3_changeMark 38 = .ok (.istore 5, 2) := by decide +kernel
theorem dX3_changeMark_40 : decode cX3_changeMark 40 = .ok (.aload_n 0, 1) := by decide +kernel
theorem dX3_changeMark_41 : decode cX3_changeMark 41 = .ok (.getfield 15, 3) := by decide +kernel
theorem dX3_changeMark_44 : decode cX3_changeMark 44 = .ok (.iload_n 1, 1) := by decide +kernel
theorem dX3_changeMark_45 : decode cX3_changeMark 45 = .ok (.iload_n 3, 1) := by decide +kernel
theorem dX3_changeMark_46 : decode cX3_changeMark 46 = .ok (.iconst 1, 1) := by decide +kernel
theorem dX3_changeMark_47 : decode cX3_changeMark 47 = .ok (.if_icmp .ne 15, 3) := by decide +kernel
theorem dX3_changeMark_50 : decode cX3_changeMark 50 = .ok (.aload_n 0, 1) := by decide +kernel
theorem dX3_changeMark_51 : decode cX3_changeMark 51 = .ok (.getfield 15, 3) := by decide +kernel
theorem dX3_changeMark_54 : decode cX3_changeMark 54 = .ok (.iload_n 1, 1) := by decide +kernel
theorem dX3_changeMark_55 : decode cX3_changeMark 55 = .ok (.iaload, 1) := by decide +kernel
theorem dX3_changeMark_56 : decode cX3_changeMark 56 = .ok (.iload 4, 2) := by decide +kernel
theorem dX3_changeMark_58 : decode cX3_changeMark 58 = .ok (.ior, 1) := by decide +kernel
theorem dX3_changeMark_59 : decode cX3_changeMark 59 = .ok (.goto 14, 3) := by decide +kernel
theorem dX3_changeMark_62 : decode cX3_changeMark 62 = .ok (.aload_n 0, 1) := by decide +kernel
theorem dX3_changeMark_63 : decode cX3_changeMark 63 = .ok (.getfield 15, 3) := by decide +kernel
theorem dX3_changeMark_66 : decode cX3_changeMark 66 = .ok (.iload_n 1, 1) := by decide +kernel
theorem dX3_changeMark_67 : decode cX3_changeMark 67 = .ok (.iaload, 1) := by decide +kernel
theorem dX3_changeMark_68 : decode cX3_changeMark 68 = .ok (.iload 4, 2) := by decide +kernel
theorem dX3_changeMark_70 : decode cX3_changeMark 70 = .ok (.iconst (-1), 1) := by decide +kernel
theorem dX3_changeMark_71 : decode cX3_changeMark 71 = .ok (.ixor, 1) := by decide +kernel
theorem dX3_changeMark_72 : decode cX3_changeMark 72 = .ok (.iand, 1) := by decide +kernel
theorem dX3_changeMark_73 : decode cX3_changeMark 73 = .ok (.iastore, 1) := by decide +kernel
theorem dX3_changeMark_74 : decode cX3_changeMark 74 = .ok (.aload_n 0, 1) := by decide +kernel
theorem dX3_changeMark_75 : decode cX3_changeMark 75 = .ok (.getfield 18, 3) := by decide +kernel
theorem dX3_changeMark_78 : decode cX3_changeMark 78 = .ok (.iload_n 1, 1) := by decide +kernel
theorem dX3_changeMark_79 : decode cX3_changeMark 79 = .ok (.iload_n 3, 1) := by decide +kernel
theorem dX3_changeMark_80 : decode cX3_changeMark 80 = .ok (.iconst 2, 1) := by decide +kernel
theorem dX3_changeMark_81 : decode cX3_changeMark 81 = .ok (.if_icmp .ne 15, 3) := by decide +kernel
theorem dX3_changeMark_84 : decode cX3_changeMark 84 = .ok (.aload_n 0, 1) := by decide +kernel
theorem dX3_changeMark_85 : decode cX3_changeMark 85 = .ok (.getfield 18, 3) := by decide +kernel
theorem dX3_changeMark_88 : decode cX3_changeMark 88 = .ok (.iload_n 1, 1) := by decide +kernel
theorem dX3_changeMark_89 : decode cX3_changeMark 89 = .ok (.iaload, 1) := by decide +kernel
theorem dX3_changeMark_90 : decode cX3_changeMark 90 = .ok (.iload 4, 2) := by decide +kernel
theorem dX3_changeMark_92 : decode cX3_changeMark 92 = .ok (.ior, 1) := by decide +kernel
theorem dX3_changeMark_93 : decode cX3_changeMark 93 = .ok (.goto 14, 3) := by decide +kernel
theorem dX3_changeMark_96 : decode cX3_changeMark 96 = .ok (.aload_n 0, 1) := by decide +kernel
theorem dX3_changeMark_97 : decode cX3_changeMark 97 = .ok (.getfield 18, 3) := by decide +kernel
theorem dX3_changeMark_100 : decode cX3_changeMark 100 = .ok (.iload_n 1, 1) := by decide +kernel
theorem dX3_changeMark_101 : decode cX3_changeMark 101 = .ok (.iaload, 1) := by decide +kernel
theorem dX3_changeMark_102 : decode cX3_changeMark 102 = .ok (.iload 4, 2) := by decide +kernel
theorem dX3_changeMark_104 : decode cX3_changeMark 104 = .ok (.iconst (-1), 1) := by decide +kernel
theorem dX3_changeMark_105 : decode cX3_changeMark 105 = .ok (.ixor, 1) := by decide +kernel
theorem dX3_changeMark_106 : decode cX3_changeMark 106 = .ok (.iand, 1) := by decide +kernel
theorem dX3_changeMark_107 : decode cX3_changeMark 107 = .ok (.iastore, 1) := by decide +kernel
theorem dX3_changeMark_108 : decode cX3_changeMark 108 = .ok (.iload 5, 2) := by decide +kernel
theorem dX3_changeMark_110 : decode cX3_changeMark 110 = .ok (.ireturn, 1) := by decide +kernel
set_option maxRecDepth 20000 in
theorem ggX3_scoreOf_J6_bitCount_0f7a4 : GoodIn wsX3_scoreOf wsJ6_bitCount_0f7a4 := goodIn_r _ [7, 8, 9, 10] (by decide +kernel) (by decide +kernel)
set_option maxRecDepth 20000 in
theorem gX3_scoreOf_J6_bitCount_0f7a4 : GoodIn wsX3_scoreOf (va_wsS RX3 35 yJ6_bitCount_0f7a4 wsJ6_bitCount_0f7a4) := goodIn_app (goodIn_of _ (by decide +kernel)) ggX3_scoreOf_J6_bitCount_0f7a4
theorem dX3_scoreOf_0 : decode cX3_scoreOf 0 = .ok (.aload_n 0, 1) := by decide +kernel
theorem dX3_scoreOf_1 : decode cX3_scoreOf 1 = .ok (.getfield 9, 3) := by decide +kernel
theorem dX3_scoreOf_4 : decode cX3_scoreOf 4 = .ok (.iload_n 1, 1) := by decide +kernel
theorem dX3_scoreOf_5 : decode cX3_scoreOf 5 = .ok (.iaload, 1) := by decide +kernel
theorem dX3_scoreOf_6 : decode cX3_scoreOf 6 = .ok (.istore_n 3, 1) := by decide +kernel
theorem dX3_scoreOf_7 : decode cX3_scoreOf 7 = .ok (.iconst 2, 1) := by decide +kernel
theorem dX3_scoreOf_8 : decode cX3_scoreOf 8 = .ok (.iload_n 3, 1) := by decide +kernel
theorem dX3_scoreOf_9 : decode cX3_scoreOf 9 = .ok (.aload_n 0, 1) := by decide +kernel
theorem dX3_scoreOf_10 : decode cX3_scoreOf 10 = .ok (.getfield 15, 3) := by decide +kernel
theorem dX3_scoreOf_13 : decode cX3_scoreOf 13 = .ok (.iload_n 2, 1) := by decide +kernel
theorem dX3_scoreOf_14 : decode cX3_scoreOf 14 = .ok (.iaload, 1) := by decide +kernel
theorem dX3_scoreOf_15 : decode cX3_scoreOf 15 = .ok (.iand, 1) := by decide +kernel
theorem dX3_scoreOf_16 : decode cX3_scoreOf 16 = .ok (.invokestatic 35, 3) := by decide +kernel
theorem dX3_scoreOf_19 : decode cX3_scoreOf 19 = .ok (.imul, 1) := by decide +kernel
theorem dX3_scoreOf_20 : decode cX3_scoreOf 20 = .ok (.iconst 3, 1) := by decide +kernel
theorem dX3_scoreOf_21 : decode cX3_scoreOf 21 = .ok (.iload_n 3, 1) := by decide +kernel
theorem dX3_scoreOf_22 : decode cX3_scoreOf 22 = .ok (.aload_n 0, 1) := by decide +kernel
theorem dX3_scoreOf_23 : decode cX3_scoreOf 23 = .ok (.getfield 18, 3) := by decide +kernel
theorem dX3_scoreOf_26 : decode cX3_scoreOf 26 = .ok (.iload_n 2, 1) := by decide +kernel
theorem dX3_scoreOf_27 : decode cX3_scoreOf 27 = .ok (.iaload, 1) := by decide +kernel
theorem dX3_scoreOf_28 : decode cX3_scoreOf 28 = .ok (.iand, 1) := by decide +kernel
theorem dX3_scoreOf_29 : decode cX3_scoreOf 29 = .ok (.invokestatic 35, 3) := by decide +kernel
theorem dX3_scoreOf_32 : decode cX3_scoreOf 32 = .ok (.imul, 1) := by decide +kernel
theorem dX3_scoreOf_33 : decode cX3_scoreOf 33 = .ok (.isub, 1) := by decide +kernel
theorem dX3_scoreOf_34 : decode cX3_scoreOf 34 = .ok (.aload_n 0, 1) := by decide +kernel
theorem dX3_scoreOf_35 : decode cX3_scoreOf 35 = .ok (.getfield 15, 3) := by decide +kernel
theorem dX3_scoreOf_38 : decode cX3_scoreOf 38 = .ok (.iload_n 2, 1) := by decide +kernel
theorem dX3_scoreOf_39 : decode cX3_scoreOf 39 = .ok (.iaload, 1) := by decide +kernel
theorem dX3_scoreOf_40 : decode cX3_scoreOf 40 = .ok (.iload_n 3, 1) := by decide +kernel
theorem dX3_scoreOf_41 : decode cX3_scoreOf 41 = .ok (.iconst (-1), 1) := by decide +kernel
theorem dX3_scoreOf_42 : decode cX3_scoreOf 42 = .ok (.ixor, 1) := by decide +kernel
theorem dX3_scoreOf_43 : decode cX3_scoreOf 43 = .ok (.iand, 1) := by decide +kernel
theorem dX3_scoreOf_44 : decode cX3_scoreOf 44 = .ok (.invokestatic 35, 3) := by decide +kernel
theorem dX3_scoreOf_47 : decode cX3_scoreOf 47 = .ok (.isub, 1) := by decide +kernel
theorem dX3_scoreOf_48 : decode cX3_scoreOf 48 = .ok (.ireturn, 1) := by decide +kernel
theorem dX3_isJoinable_0 : decode cX3_isJoinable 0 = .ok (.aload_n 0, 1) := by decide +kernel
theorem dX3_isJoinable_1 : decode cX3_isJoinable 1 = .ok (.getfield 27, 3) := by decide +kernel
theorem dX3_isJoinable_4 : decode cX3_isJoinable 4 = .ok (.bipush 6, 2) := by decide +kernel
theorem dX3_isJoinable_6 : decode cX3_isJoinable 6 = .ok (.if_icmp .gt 7, 3) := by decide +kernel
theorem dX3_isJoinable_9 : decode cX3_isJoinable 9 = .ok (.iconst 1, 1) := by decide +kernel
theorem dX3_isJoinable_10 : decode cX3_isJoinable 10 = .ok (.goto 4, 3) := by decide +kernel
theorem dX3_isJoinable_13 : decode cX3_isJoinable 13 = .ok (.iconst 0, 1) := by decide +kernel
theorem dX3_isJoinable_14 : decode cX3_isJoinable 14 = .ok (.ireturn, 1) := by decide +kernel
set_option maxRecDepth 20000 in
theorem ggX3_bestJoin_J7_fill_53178 : GoodIn wsX3_bestJoin wsJ7_fill_53178 := goodIn_r _ [10] (by decide +kernel) (by decide +kernel)
set_option maxRecDepth 20000 in
theorem gX3_bestJoin_J7_fill_53178 : GoodIn wsX3_bestJoin (va_wsS RX3 47 yJ7_fill_53178 wsJ7_fill_53178) := goodIn_app (goodIn_of _ (by decide +kernel)) ggX3_bestJoin_J7_fill_53178
set_option maxRecDepth 20000 in
theorem ggX3_bestJoin_X3_weigh : GoodIn wsX3_bestJoin wsX3_weigh := goodIn_r _ [15, 16, 17, 18, 19, 20, 21, 14, 22, 1, 23, 24, 25, 26, 27, 28, 29, 30, 31, 32, 33, 34, 35, 36, 37, 38, 39, 47, 48, 49, 50, 51, 52] (by decide +kernel) (by decide +kernel)
set_option maxRecDepth 20000 in
theorem gX3_bestJoin_X3_weigh : GoodIn wsX3_bestJoin (wsV RX3 53 RX3 yX3_weigh wsX3_weigh) := goodIn_app (goodIn_of _ (by decide +kernel)) ggX3_bestJoin_X3_weigh
set_option maxRecDepth 20000 in
theorem ggX3_bestJoin_X3_bestWithThing : GoodIn wsX3_bestJoin wsX3_bestWithThing := goodIn_r _ [43, 6, 16, 44, 45, 4, 46, 47, 48, 49, 50, 51, 52] (by decide +kernel) (by decide +kernel)
set_option maxRecDepth 20000 in
theorem gX3_bestJoin_X3_bestWithThing : GoodIn wsX3_bestJoin (wsV RX3 57 RX3 yX3_bestWithThing wsX3_bestWithThing) := goodIn_app (goodIn_of _ (by decide +kernel)) ggX3_bestJoin_X3_bestWithThing
theorem dX3_bestJoin_0 : decode cX3_bestJoin 0 = .ok (.iconst 1, 1) := by decide +kernel
theorem dX3_bestJoin_1 : decode cX3_bestJoin 1 = .ok (.aload_n 0, 1) := by decide +kernel
theorem dX3_bestJoin_2 : decode cX3_bestJoin 2 = .ok (.getfield 27, 3) := by decide +kernel
theorem dX3_bestJoin_5 : decode cX3_bestJoin 5 = .ok (.bipush 6, 2) := by decide +kernel
theorem dX3_bestJoin_7 : decode cX3_bestJoin 7 = .ok (.invokestatic 41, 3) := by decide +kernel
theorem dX3_bestJoin_10 : decode cX3_bestJoin 10 = .ok (.ishl, 1) := by decide +kernel
theorem dX3_bestJoin_11 : decode cX3_bestJoin 11 = .ok (.istore_n 2, 1) := by decide +kernel
theorem dX3_bestJoin_12 : decode cX3_bestJoin 12 = .ok (.aload_n 0, 1) := by decide +kernel
theorem dX3_bestJoin_13 : decode cX3_bestJoin 13 = .ok (.getfield 21, 3) := by decide +kernel
theorem dX3_bestJoin_16 : decode cX3_bestJoin 16 = .ok (.iconst 0, 1) := by decide +kernel
theorem dX3_bestJoin_17 : decode cX3_bestJoin 17 = .ok (.invokestatic 47, 3) := by decide +kernel
theorem dX3_bestJoin_20 : decode cX3_bestJoin 20 = .ok (.iconst 0, 1) := by decide +kernel
theorem dX3_bestJoin_21 : decode cX3_bestJoin 21 = .ok (.istore_n 3, 1) := by decide +kernel
theorem dX3_bestJoin_22 : decode cX3_bestJoin 22 = .ok (.iload_n 3, 1) := by decide +kernel
theorem dX3_bestJoin_23 : decode cX3_bestJoin 23 = .ok (.iload_n 1, 1) := by decide +kernel
theorem dX3_bestJoin_24 : decode cX3_bestJoin 24 = .ok (.if_icmp .ge 43, 3) := by decide +kernel
theorem dX3_bestJoin_27 : decode cX3_bestJoin 27 = .ok (.aload_n 0, 1) := by decide +kernel
theorem dX3_bestJoin_28 : decode cX3_bestJoin 28 = .ok (.iload_n 3, 1) := by decide +kernel
theorem dX3_bestJoin_29 : decode cX3_bestJoin 29 = .ok (.invokevirtual 53, 3) := by decide +kernel
theorem dX3_bestJoin_32 : decode cX3_bestJoin 32 = .ok (.iload_n 2, 1) := by decide +kernel
theorem dX3_bestJoin_33 : decode cX3_bestJoin 33 = .ok (.iconst 1, 1) := by decide +kernel
theorem dX3_bestJoin_34 : decode cX3_bestJoin 34 = .ok (.isub, 1) := by decide +kernel
theorem dX3_bestJoin_35 : decode cX3_bestJoin 35 = .ok (.istore 4, 2) := by decide +kernel
theorem dX3_bestJoin_37 : decode cX3_bestJoin 37 = .ok (.iload 4, 2) := by decide +kernel
theorem dX3_bestJoin_39 : decode cX3_bestJoin 39 = .ok (.ifCond .le 22, 3) := by decide +kernel
theorem dX3_bestJoin_42 : decode cX3_bestJoin 42 = .ok (.aload_n 0, 1) := by decide +kernel
theorem dX3_bestJoin_43 : decode cX3_bestJoin 43 = .ok (.getfield 21, 3) := by decide +kernel
theorem dX3_bestJoin_46 : decode cX3_bestJoin 46 = .ok (.iload 4, 2) := by decide +kernel
theorem dX3_bestJoin_48 : decode cX3_bestJoin 48 = .ok (.aload_n 0, 1) := by decide +kernel
theorem dX3_bestJoin_49 : decode cX3_bestJoin 49 = .ok (.iload 4, 2) := by decide +kernel
theorem dX3_bestJoin_51 : decode cX3_bestJoin 51 = .ok (.invokevirtual 57, 3) := by decide +kernel
theorem dX3_bestJoin_54 : decode cX3_bestJoin 54 = .ok (.iastore, 1) := by decide +kernel
theorem dX3_bestJoin_55 : decode cX3_bestJoin 55 = .ok (.iinc 4 (-1), 3) := by decide +kernel
theorem dX3_bestJoin_58 : decode cX3_bestJoin 58 = .ok (.goto (-21), 3) := by decide +kernel
theorem dX3_bestJoin_61 : decode cX3_bestJoin 61 = .ok (.iinc 3 1, 3) := by decide +kernel
theorem dX3_bestJoin_64 : decode cX3_bestJoin 64 = .ok (.goto (-42), 3) := by decide +kernel
theorem dX3_bestJoin_67 : decode cX3_bestJoin 67 = .ok (.aload_n 0, 1) := by decide +kernel
theorem dX3_bestJoin_68 : decode cX3_bestJoin 68 = .ok (.getfield 21, 3) := by decide +kernel
theorem dX3_bestJoin_71 : decode cX3_bestJoin 71 = .ok (.iload_n 2, 1) := by decide +kernel
theorem dX3_bestJoin_72 : decode cX3_bestJoin 72 = .ok (.iconst 1, 1) := by decide +kernel
theorem dX3_bestJoin_73 : decode cX3_bestJoin 73 = .ok (.isub, 1) := by decide +kernel
theorem dX3_bestJoin_74 : decode cX3_bestJoin 74 = .ok (.iaload, 1) := by decide +kernel
theorem dX3_bestJoin_75 : decode cX3_bestJoin 75 = .ok (.ireturn, 1) := by decide +kernel
set_option maxRecDepth 20000 in
theorem ggX3_weigh_X3_hasEntry : GoodIn wsX3_weigh wsX3_hasEntry := goodIn_r _ [8, 9, 10, 11, 12, 27, 28, 29, 30, 31, 32] (by decide +kernel) (by decide +kernel)
set_option maxRecDepth 20000 in
theorem gX3_weigh_X3_hasEntry : GoodIn wsX3_weigh (wsV RX3 60 RX3 yX3_hasEntry wsX3_hasEntry) := goodIn_app (goodIn_of _ (by decide +kernel)) ggX3_weigh_X3_hasEntry
set_option maxRecDepth 20000 in
theorem ggX3_weigh_X3_scoreOf : GoodIn wsX3_weigh wsX3_scoreOf := goodIn_r _ [16, 17, 18, 19, 20, 21, 22, 23, 24, 25, 26, 27, 28, 29, 30, 31, 32] (by decide +kernel) (by decide +kernel)
set_option maxRecDepth 20000 in
theorem gX3_weigh_X3_scoreOf : GoodIn wsX3_weigh (wsV RX3 64 RX3 yX3_scoreOf wsX3_scoreOf) := goodIn_app (goodIn_of _ (by decide +kernel)) ggX3_weigh_X3_scoreOf
theorem dX3_weigh_0 : decode cX3_weigh 0 = .ok (.iconst 0, 1) := by decide +kernel
theorem dX3_weigh_1 : decode cX3_weigh 1 = .ok (.istore_n 2, 1) := by decide +kernel
theorem dX3_weigh_2 : decode cX3_weigh 2 = .ok (.iload_n 2, 1) := by decide +kernel
theorem dX3_weigh_3 : decode cX3_weigh 3 = .ok (.bipush 6, 2) := by decide +kernel
theorem dX3_weigh_5 : decode cX3_weigh 5 = .ok (.if_icmp .ge 57, 3) := by decide +kernel
theorem dX3_weigh_8 : decode cX3_weigh 8 = .ok (.aload_n 0, 1) := by decide +kernel
theorem dX3_weigh_9 : decode cX3_weigh 9 = .ok (.iload_n 2, 1) := by decide +kernel
theorem dX3_weigh_10 : decode cX3_weigh 10 = .ok (.invokevirtual 60, 3) := by decide +kernel
theorem dX3_weigh_13 : decode cX3_weigh 13 = .ok (.ifCond .eq 12, 3) := by decide +kernel
theorem dX3_weigh_16 : decode cX3_weigh 16 = .ok (.aload_n 0, 1) := by decide +kernel
theorem dX3_weigh_17 : decode cX3_weigh 17 = .ok (.iload_n 2, 1) := by decide +kernel
theorem dX3_weigh_18 : decode cX3_weigh 18 = .ok (.iload_n 1, 1) := by decide +kernel
theorem dX3_weigh_19 : decode cX3_weigh 19 = .ok (.invokevirtual 64, 3) := by decide +kernel
theorem dX3_weigh_22 : decode cX3_weigh 22 = .ok (.goto 4, 3) := by decide +kernel
theorem dX3_weigh_25 : decode cX3_weigh 25 = .ok (.iconst 0, 1) := by decide +kernel
theorem dX3_weigh_26 : decode cX3_weigh 26 = .ok (.istore_n 3, 1) := by decide +kernel
theorem dX3_weigh_27 : decode cX3_weigh 27 = .ok (.aload_n 0, 1) := by decide +kernel
theorem dX3_weigh_28 : decode cX3_weigh 28 = .ok (.getfield 24, 3) := by decide +kernel
theorem dX3_weigh_31 : decode cX3_weigh 31 = .ok (.iload_n 2, 1) := by decide +kernel
theorem dX3_weigh_32 : decode cX3_weigh 32 = .ok (.iload_n 3, 1) := by decide +kernel
theorem dX3_weigh_33 : decode cX3_weigh 33 = .ok (.ifCond .le 21, 3) := by decide +kernel
theorem dX3_weigh_36 : decode cX3_weigh 36 = .ok (.iload_n 3, 1) := by decide +kernel
theorem dX3_weigh_37 : decode cX3_weigh 37 = .ok (.ldc 67, 2) := by decide +kernel
theorem dX3_weigh_39 : decode cX3_weigh 39 = .ok (.imul, 1) := by decide +kernel
theorem dX3_weigh_40 : decode cX3_weigh 40 = .ok (.bipush 12, 2) := by decide +kernel
theorem dX3_weigh_42 : decode cX3_weigh 42 = .ok (.iload_n 1, 1) := by decide +kernel
theorem dX3_weigh_43 : decode cX3_weigh 43 = .ok (.isub, 1) := by decide +kernel
theorem dX3_weigh_44 : decode cX3_weigh 44 = .ok (.getstatic 68, 3) := by decide +kernel
theorem dX3_weigh_47 : decode cX3_weigh 47 = .ok (.iload_n 2, 1) := by decide +kernel
theorem dX3_weigh_48 : decode cX3_weigh 48 = .ok (.iaload, 1) := by decide +kernel
theorem dX3_weigh_49 : decode cX3_weigh 49 = .ok (.imul, 1) := by decide +kernel
theorem dX3_weigh_50 : decode cX3_weigh 50 = .ok (.iadd, 1) := by decide +kernel
theorem dX3_weigh_51 : decode cX3_weigh 51 = .ok (.goto 4, 3) := by decide +kernel
theorem dX3_weigh_54 : decode cX3_weigh 54 = .ok (.iconst 0, 1) := by decide +kernel
theorem dX3_weigh_55 : decode cX3_weigh 55 = .ok (.iastore, 1) := by decide +kernel
theorem dX3_weigh_56 : decode cX3_weigh 56 = .ok (.iinc 2 1, 3) := by decide +kernel
theorem dX3_weigh_59 : decode cX3_weigh 59 = .ok (.goto (-57), 3) := by decide +kernel
theorem dX3_weigh_62 : decode cX3_weigh 62 = .ok (.return_, 1) := by decide +kernel
theorem dX3_bestWithThing_0 : decode cX3_bestWithThing 0 = .ok (.aload_n 0, 1) := by decide +kernel
theorem dX3_bestWithThing_1 : decode cX3_bestWithThing 1 = .ok (.getfield 21, 3) := by decide +kernel
theorem dX3_bestWithThing_4 : decode cX3_bestWithThing 4 = .ok (.iload_n 1, 1) := by decide +kernel
theorem dX3_bestWithThing_5 : decode cX3_bestWithThing 5 = .ok (.iaload, 1) := by decide +kernel
theorem dX3_bestWithThing_6 : decode cX3_bestWithThing 6 = .ok (.istore_n 2, 1) := by decide +kernel
theorem dX3_bestWithThing_7 : decode cX3_bestWithThing 7 = .ok (.iconst 0, 1) := by decide +kernel
theorem dX3_bestWithThing_8 : decode cX3_bestWithThing 8 = .ok (.istore_n 3, 1) := by decide +kernel
theorem dX3_bestWithThing_9 : decode cX3_bestWithThing 9 = .ok (.iload_n 3, 1) := by decide +kernel
theorem dX3_bestWithThing_10 : decode cX3_bestWithThing 10 = .ok (.bipush 6, 2) := by decide +kernel
theorem dX3_bestWithThing_12 : decode cX3_bestWithThing 12 = .ok (.if_icmp .ge 40, 3) := by decide +kernel
theorem dX3_bestWithThing_15 : decode cX3_bestWithThing 15 = .ok (.iload_n 1, 1) := by decide +kernel
theorem dX3_bestWithThing_16 : decode cX3_bestWithThing 16 = .ok (.iload_n 3, 1) := by decide +kernel
theorem dX3_bestWithThing_17 : decode cX3_bestWithThing 17 = .ok (.ishr, 1) := by decide +kernel
theorem dX3_bestWithThing_18 : decode cX3_bestWithThing 18 = .ok (.iconst 1, 1) := by decide +kernel
theorem dX3_bestWithThing_19 : decode cX3_bestWithThing 19 = .ok (.iand, 1) := by decide +kernel
theorem dX3_bestWithThing_20 : decode cX3_bestWithThing 20 = .ok (.iconst 1, 1) := by decide +kernel
theorem dX3_bestWithThing_21 : decode cX3_bestWithThing 21 = .ok (.if_icmp .ne 25, 3) := by decide +kernel
theorem dX3_bestWithThing_24 : decode cX3_bestWithThing 24 = .ok (.iload_n 2, 1) := by decide +kernel
theorem dX3_bestWithThing_25 : decode cX3_bestWithThing 25 = .ok (.aload_n 0, 1) := by decide +kernel
theorem dX3_bestWithThing_26 : decode cX3_bestWithThing 26 = .ok (.getfield 21, 3) := by decide +kernel
theorem dX3_bestWithThing_29 : decode cX3_bestWithThing 29 = .ok (.iload_n 1, 1) := by decide +kernel
theorem dX3_bestWithThing_30 : decode cX3_bestWithThing 30 = .ok (.iconst 1, 1) := by decide +kernel
theorem dX3_bestWithThing_31 : decode cX3_bestWithThing 31 = .ok (.iload_n 3, 1) := by decide +kernel
theorem dX3_bestWithThing_32 : decode cX3_bestWithThing 32 = .ok (.ishl, 1) := by decide +kernel
theorem dX3_bestWithThing_33 : decode cX3_bestWithThing 33 = .ok (.ixor, 1) := by decide +kernel
theorem dX3_bestWithThing_34 : decode cX3_bestWithThing 34 = .ok (.iaload, 1) := by decide +kernel
theorem dX3_bestWithThing_35 : decode cX3_bestWithThing 35 = .ok (.aload_n 0, 1) := by decide +kernel
theorem dX3_bestWithThing_36 : decode cX3_bestWithThing 36 = .ok (.getfield 24, 3) := by decide +kernel
theorem dX3_bestWithThing_39 : decode cX3_bestWithThing 39 = .ok (.iload_n 3, 1) := by decide +kernel
theorem dX3_bestWithThing_40 : decode cX3_bestWithThing 40 = .ok (.iaload, 1) := by decide +kernel
theorem dX3_bestWithThing_41 : decode cX3_bestWithThing 41 = .ok (.iadd, 1) := by decide +kernel
theorem dX3_bestWithThing_42 : decode cX3_bestWithThing 42 = .ok (.invokestatic 71, 3) := by decide +kernel
theorem dX3_bestWithThing_45 : decode cX3_bestWithThing 45 = .ok (.istore_n 2, 1) := by decide +kernel
theorem dX3_bestWithThing_46 : decode cX3_bestWithThing 46 = .ok (.iinc 3 1, 3) := by decide +kernel
theorem dX3_bestWithThing_49 : decode cX3_bestWithThing 49 = .ok (.goto (-40), 3) := by decide +kernel
theorem dX3_bestWithThing_52 : decode cX3_bestWithThing 52 = .ok (.iload_n 2, 1) := by decide +kernel
theorem dX3_bestWithThing_53 : decode cX3_bestWithThing 53 = .ok (.ireturn, 1) := by decide +kernel
theorem dX3_sumIn_0 : decode cX3_sumIn 0 = .ok (.iload_n 0, 1) := by decide +kernel
theorem dX3_sumIn_1 : decode cX3_sumIn 1 = .ok (.ldc 67, 2) := by decide +kernel
theorem dX3_sumIn_3 : decode cX3_sumIn 3 = .ok (.idiv, 1) := by decide +kernel
theorem dX3_sumIn_4 : decode cX3_sumIn 4 = .ok (.ireturn, 1) := by decide +kernel
set_option maxRecDepth 20000 in
theorem ggX3_thingIn_X5_within : GoodIn wsX3_thingIn wsX5_within := goodIn_r _ [4] (by decide +kernel) (by decide +kernel)
set_option maxRecDepth 20000 in
theorem gX3_thingIn_X5_within_n31 : GoodIn wsX3_thingIn (wsX5_within) := ggX3_thingIn_X5_within
theorem dX3_thingIn_0 : decode cX3_thingIn 0 = .ok (.iload_n 1, 1) := by decide +kernel
theorem dX3_thingIn_1 : decode cX3_thingIn 1 = .ok (.iconst 0, 1) := by decide +kernel
theorem dX3_thingIn_2 : decode cX3_thingIn 2 = .ok (.iconst 5, 1) := by decide +kernel
theorem dX3_thingIn_3 : decode cX3_thingIn 3 = .ok (.invokestatic 31, 3) := by decide +kernel
theorem dX3_thingIn_6 : decode cX3_thingIn 6 = .ok (.ifCond .ne 5, 3) := by decide +kernel
theorem dX3_thingIn_9 : decode cX3_thingIn 9 = .ok (.iconst (-1), 1) := by decide +kernel
theorem dX3_thingIn_10 : decode cX3_thingIn 10 = .ok (.ireturn, 1) := by decide +kernel
theorem dX3_thingIn_11 : decode cX3_thingIn 11 = .ok (.iload_n 0, 1) := by decide +kernel
theorem dX3_thingIn_12 : decode cX3_thingIn 12 = .ok (.getstatic 68, 3) := by decide +kernel
theorem dX3_thingIn_15 : decode cX3_thingIn 15 = .ok (.iload_n 1, 1) := by decide +kernel
theorem dX3_thingIn_16 : decode cX3_thingIn 16 = .ok (.iaload, 1) := by decide +kernel
theorem dX3_thingIn_17 : decode cX3_thingIn 17 = .ok (.idiv, 1) := by decide +kernel
theorem dX3_thingIn_18 : decode cX3_thingIn 18 = .ok (.bipush 13, 2) := by decide +kernel
theorem dX3_thingIn_20 : decode cX3_thingIn 20 = .ok (.irem, 1) := by decide +kernel
theorem dX3_thingIn_21 : decode cX3_thingIn 21 = .ok (.istore_n 2, 1) := by decide +kernel
theorem dX3_thingIn_22 : decode cX3_thingIn 22 = .ok (.iload_n 2, 1) := by decide +kernel
theorem dX3_thingIn_23 : decode cX3_thingIn 23 = .ok (.ifCond .ne 7, 3) := by decide +kernel
theorem dX3_thingIn_26 : decode cX3_thingIn 26 = .ok (.iconst (-1), 1) := by decide +kernel
theorem dX3_thingIn_27 : decode cX3_thingIn 27 = .ok (.goto 7, 3) := by decide +kernel
theorem dX3_thingIn_30 : decode cX3_thingIn 30 = .ok (.bipush 12, 2) := by decide +kernel
theorem dX3_thingIn_32 : decode cX3_thingIn 32 = .ok (.iload_n 2, 1) := by decide +kernel
theorem dX3_thingIn_33 : decode cX3_thingIn 33 = .ok (.isub, 1) := by decide +kernel
theorem dX3_thingIn_34 : decode cX3_thingIn 34 = .ok (.ireturn, 1) := by decide +kernel
set_option maxRecDepth 20000 in
theorem ggX3_mixMarks_X5_mix : GoodIn wsX3_mixMarks wsX5_mix := goodIn_r _ [5, 6] (by decide +kernel) (by decide +kernel)
set_option maxRecDepth 20000 in
theorem gX3_mixMarks_X5_mix_n74 : GoodIn wsX3_mixMarks (wsX5_mix) := ggX3_mixMarks_X5_mix
theorem dX3_mixMarks_0 : decode cX3_mixMarks 0 = .ok (.lload_n 1, 1) := by decide +kernel
theorem dX3_mixMarks_1 : decode cX3_mixMarks 1 = .ok (.aload_n 0, 1) := by decide +kernel
theorem dX3_mixMarks_2 : decode cX3_mixMarks 2 = .ok (.getfield 15, 3) := by decide +kernel
theorem dX3_mixMarks_5 : decode cX3_mixMarks 5 = .ok (.iload_n 3, 1) := by decide +kernel
theorem dX3_mixMarks_6 : decode cX3_mixMarks 6 = .ok (.iaload, 1) := by decide +kernel
theorem dX3_mixMarks_7 : decode cX3_mixMarks 7 = .ok (.invokestatic 74, 3) := by decide +kernel
theorem dX3_mixMarks_10 : decode cX3_mixMarks 10 = .ok (.aload_n 0, 1) := by decide +kernel
theorem dX3_mixMarks_11 : decode cX3_mixMarks 11 = .ok (.getfield 18, 3) := by decide +kernel
theorem dX3_mixMarks_14 : decode cX3_mixMarks 14 = .ok (.iload_n 3, 1) := by decide +kernel
theorem dX3_mixMarks_15 : decode cX3_mixMarks 15 = .ok (.iaload, 1) := by decide +kernel
theorem dX3_mixMarks_16 : decode cX3_mixMarks 16 = .ok (.invokestatic 74, 3) := by decide +kernel
theorem dX3_mixMarks_19 : decode cX3_mixMarks 19 = .ok (.lreturn, 1) := by decide +kernel
set_option maxRecDepth 20000 in
theorem ggX3_mixEntries_X5_mix : GoodIn wsX3_mixEntries wsX5_mix := goodIn_r _ [5, 6] (by decide +kernel) (by decide +kernel)
set_option maxRecDepth 20000 in
theorem gX3_mixEntries_X5_mix_n74 : GoodIn wsX3_mixEntries (wsX5_mix) := ggX3_mixEntries_X5_mix
theorem dX3_mixEntries_0 : decode cX3_mixEntries 0 = .ok (.lload_n 1, 1) := by decide +kernel
theorem dX3_mixEntries_1 : decode cX3_mixEntries 1 = .ok (.lstore_n 3, 1) := by decide +kernel
theorem dX3_mixEntries_2 : decode cX3_mixEntries 2 = .ok (.iconst 0, 1) := by decide +kernel
theorem dX3_mixEntries_3 : decode cX3_mixEntries 3 = .ok (.istore 5, 2) := by decide +kernel
theorem dX3_mixEntries_5 : decode cX3_mixEntries 5 = .ok (.iload 5, 2) := by decide +kernel
theorem dX3_mixEntries_7 : decode cX3_mixEntries 7 = .ok (.aload_n 0, 1) := by decide +kernel
theorem dX3_mixEntries_8 : decode cX3_mixEntries 8 = .ok (.getfield 27, 3) := by decide +kernel
theorem dX3_mixEntries_11 : decode cX3_mixEntries 11 = .ok (.if_icmp .ge 21, 3) := by decide +kernel
theorem dX3_mixEntries_14 : decode cX3_mixEntries 14 = .ok (.lload_n 3, 1) := by decide +kernel
theorem dX3_mixEntries_15 : decode cX3_mixEntries 15 = .ok (.aload_n 0, 1) := by decide +kernel
theorem dX3_mixEntries_16 : decode cX3_mixEntries 16 = .ok (.getfield 9, 3) := by decide +kernel
theorem dX3_mixEntries_19 : decode cX3_mixEntries 19 = .ok (.iload 5, 2) := by decide +kernel
theorem dX3_mixEntries_21 : decode cX3_mixEntries 21 = .ok (.iaload, 1) := by decide +kernel
theorem dX3_mixEntries_22 : decode cX3_mixEntries 22 = .ok (.invokestatic 74, 3) := by decide +kernel
theorem dX3_mixEntries_25 : decode cX3_mixEntries 25 = .ok (.lstore_n 3, 1) := by decide +kernel
theorem dX3_mixEntries_26 : decode cX3_mixEntries 26 = .ok (.iinc 5 1, 3) := by decide +kernel
theorem dX3_mixEntries_29 : decode cX3_mixEntries 29 = .ok (.goto (-24), 3) := by decide +kernel
theorem dX3_mixEntries_32 : decode cX3_mixEntries 32 = .ok (.lload_n 3, 1) := by decide +kernel
theorem dX3_mixEntries_33 : decode cX3_mixEntries 33 = .ok (.lreturn, 1) := by decide +kernel
set_option maxRecDepth 20000 in
theorem ggX4_init_J7_fill_53178 : GoodIn wsX4_init wsJ7_fill_53178 := goodIn_r _ [15] (by decide +kernel) (by decide +kernel)
set_option maxRecDepth 20000 in
theorem gX4_init_J7_fill_53178 : GoodIn wsX4_init (va_wsS RX4 34 yJ7_fill_53178 wsJ7_fill_53178) := goodIn_app (goodIn_of _ (by decide +kernel)) ggX4_init_J7_fill_53178
theorem dX4_init_0 : decode cX4_init 0 = .ok (.aload_n 0, 1) := by decide +kernel
theorem dX4_init_1 : decode cX4_init 1 = .ok (.invokespecial 3, 3) := by decide +kernel
theorem dX4_init_4 : decode cX4_init 4 = .ok (.aload_n 0, 1) := by decide +kernel
theorem dX4_init_5 : decode cX4_init 5 = .ok (.bipush 12, 2) := by decide +kernel
theorem dX4_init_7 : decode cX4_init 7 = .ok (.newarray .int, 2) := by decide +kernel
theorem dX4_init_9 : decode cX4_init 9 = .ok (.putfield 9, 3) := by decide +kernel
theorem dX4_init_12 : decode cX4_init 12 = .ok (.aload_n 0, 1) := by decide +kernel
theorem dX4_init_13 : decode cX4_init 13 = .ok (.bipush 12, 2) := by decide +kernel
theorem dX4_init_15 : decode cX4_init 15 = .ok (.newarray .int, 2) := by decide +kernel
theorem dX4_init_17 : decode cX4_init 17 = .ok (.putfield 15, 3) := by decide +kernel
theorem dX4_init_20 : decode cX4_init 20 = .ok (.aload_n 0, 1) := by decide +kernel
theorem dX4_init_21 : decode cX4_init 21 = .ok (.bipush 12, 2) := by decide +kernel
theorem dX4_init_23 : decode cX4_init 23 = .ok (.newarray .int, 2) := by decide +kernel
theorem dX4_init_25 : decode cX4_init 25 = .ok (.putfield 18, 3) := by decide +kernel
theorem dX4_init_28 : decode cX4_init 28 = .ok (.aload_n 0, 1) := by decide +kernel
theorem dX4_init_29 : decode cX4_init 29 = .ok (.sipush 560, 3) := by decide +kernel
theorem dX4_init_32 : decode cX4_init 32 = .ok (.newarray .int, 2) := by decide +kernel
theorem dX4_init_34 : decode cX4_init 34 = .ok (.putfield 21, 3) := by decide +kernel
theorem dX4_init_37 : decode cX4_init 37 = .ok (.aload_n 0, 1) := by decide +kernel
theorem dX4_init_38 : decode cX4_init 38 = .ok (.bipush 80, 2) := by decide +kernel
theorem dX4_init_40 : decode cX4_init 40 = .ok (.newarray .int, 2) := by decide +kernel
theorem dX4_init_42 : decode cX4_init 42 = .ok (.putfield 24, 3) := by decide +kernel
theorem dX4_init_45 : decode cX4_init 45 = .ok (.aload_n 0, 1) := by decide +kernel
theorem dX4_init_46 : decode cX4_init 46 = .ok (.iconst 0, 1) := by decide +kernel
theorem dX4_init_47 : decode cX4_init 47 = .ok (.putfield 27, 3) := by decide +kernel
theorem dX4_init_50 : decode cX4_init 50 = .ok (.aload_n 0, 1) := by decide +kernel
theorem dX4_init_51 : decode cX4_init 51 = .ok (.iconst 4, 1) := by decide +kernel
theorem dX4_init_52 : decode cX4_init 52 = .ok (.putfield 31, 3) := by decide +kernel
theorem dX4_init_55 : decode cX4_init 55 = .ok (.aload_n 0, 1) := by decide +kernel
theorem dX4_init_56 : decode cX4_init 56 = .ok (.getfield 9, 3) := by decide +kernel
theorem dX4_init_59 : decode cX4_init 59 = .ok (.iconst (-1), 1) := by decide +kernel
theorem dX4_init_60 : decode cX4_init 60 = .ok (.invokestatic 34, 3) := by decide +kernel
theorem dX4_init_63 : decode cX4_init 63 = .ok (.aload_n 0, 1) := by decide +kernel
theorem dX4_init_64 : decode cX4_init 64 = .ok (.getfield 15, 3) := by decide +kernel
theorem dX4_init_67 : decode cX4_init 67 = .ok (.iconst (-1), 1) := by decide +kernel
theorem dX4_init_68 : decode cX4_init 68 = .ok (.invokestatic 34, 3) := by decide +kernel
theorem dX4_init_71 : decode cX4_init 71 = .ok (.aload_n 0, 1) := by decide +kernel
theorem dX4_init_72 : decode cX4_init 72 = .ok (.getfield 18, 3) := by decide +kernel
theorem dX4_init_75 : decode cX4_init 75 = .ok (.iconst (-1), 1) := by decide +kernel
theorem dX4_init_76 : decode cX4_init 76 = .ok (.invokestatic 34, 3) := by decide +kernel
theorem dX4_init_79 : decode cX4_init 79 = .ok (.return_, 1) := by decide +kernel
theorem dX4_holderOf_0 : decode cX4_holderOf 0 = .ok (.aload_n 0, 1) := by decide +kernel
theorem dX4_holderOf_1 : decode cX4_holderOf 1 = .ok (.getfield 9, 3) := by decide +kernel
theorem dX4_holderOf_4 : decode cX4_holderOf 4 = .ok (.iload_n 1, 1) := by decide +kernel
theorem dX4_holderOf_5 : decode cX4_holderOf 5 = .ok (.iaload, 1) := by decide +kernel
theorem dX4_holderOf_6 : decode cX4_holderOf 6 = .ok (.ireturn, 1) := by decide +kernel
theorem dX4_handOver_0 : decode cX4_handOver 0 = .ok (.aload_n 0, 1) := by decide +kernel
theorem dX4_handOver_1 : decode cX4_handOver 1 = .ok (.getfield 9, 3) := by decide +kernel
theorem dX4_handOver_4 : decode cX4_handOver 4 = .ok (.iload_n 1, 1) := by decide +kernel
theorem dX4_handOver_5 : decode cX4_handOver 5 = .ok (.iaload, 1) := by decide +kernel
theorem dX4_handOver_6 : decode cX4_handOver 6 = .ok (.istore_n 3, 1) := by decide +kernel
theorem dX4_handOver_7 : decode cX4_handOver 7 = .ok (.aload_n 0, 1) := by decide +kernel
theorem dX4_handOver_8 : decode cX4_handOver 8 = .ok (.getfield 9, 3) := by decide +kernel
theorem dX4_handOver_11 : decode cX4_handOver 11 = .ok (.iload_n 1, 1) := by decide +kernel
theorem dX4_handOver_12 : decode cX4_handOver 12 = .ok (.iload_n 2, 1) := by decide +kernel
theorem dX4_handOver_13 : decode cX4_handOver 13 = .ok (.iastore, 1) := by decide +kernel
theorem dX4_handOver_14 : decode cX4_handOver 14 = .ok (.aload_n 0, 1) := by decide +kernel
theorem dX4_handOver_15 : decode cX4_handOver 15 = .ok (.getfield 15, 3) := by decide +kernel
theorem dX4_handOver_18 : decode cX4_handOver 18 = .ok (.iload_n 1, 1) := by decide +kernel
theorem dX4_handOver_19 : decode cX4_handOver 19 = .ok (.iconst (-1), 1) := by decide +kernel
theorem dX4_handOver_20 : decode cX4_handOver 20 = .ok (.iastore, 1) := by decide +kernel
theorem dX4_handOver_21 : decode cX4_handOver 21 = .ok (.iload_n 3, 1) := by decide +kernel
theorem dX4_handOver_22 : decode cX4_handOver 22 = .ok (.ireturn, 1) := by decide +kernel
theorem dX4_currentHour_0 : decode cX4_currentHour 0 = .ok (.aload_n 0, 1) := by decide +kernel
theorem dX4_currentHour_1 : decode cX4_currentHour 1 = .ok (.getfield 31, 3) := by decide +kernel
theorem dX4_currentHour_4 : decode cX4_currentHour 4 = .ok (.ireturn, 1) := by decide +kernel
theorem dX4_passHours_0 : decode cX4_passHours 0 = .ok (.aload_n 0, 1) := by decide +kernel
theorem dX4_passHours_1 : decode cX4_passHours 1 = .ok (.dup, 1) := by decide +kernel
theorem dX4_passHours_2 : decode cX4_passHours 2 = .ok (.getfield 31, 3) := by decide +kernel
theorem dX4_passHours_5 : decode cX4_passHours 5 = .ok (.iload_n 1, 1) := by decide +kernel
theorem dX4_passHours_6 : decode cX4_passHours 6 = .ok (.iadd, 1) := by decide +kernel
theorem dX4_passHours_7 : decode cX4_passHours 7 = .ok (.putfield 31, 3) := by decide +kernel
theorem dX4_passHours_10 : decode cX4_passHours 10 = .ok (.aload_n 0, 1) := by decide +kernel
theorem dX4_passHours_11 : decode cX4_passHours 11 = .ok (.getfield 31, 3) := by decide +kernel
theorem dX4_passHours_14 : decode cX4_passHours 14 = .ok (.ireturn, 1) := by decide +kernel
theorem dX4_mayBeSold_0 : decode cX4_mayBeSold 0 = .ok (.aload_n 0, 1) := by decide +kernel
theorem dX4_mayBeSold_1 : decode cX4_mayBeSold 1 = .ok (.getfield 9, 3) := by decide +kernel
theorem dX4_mayBeSold_4 : decode cX4_mayBeSold 4 = .ok (.iload_n 1, 1) := by decide +kernel
theorem dX4_mayBeSold_5 : decode cX4_mayBeSold 5 = .ok (.iaload, 1) := by decide +kernel
theorem dX4_mayBeSold_6 : decode cX4_mayBeSold 6 = .ok (.istore 4, 2) := by decide +kernel
theorem dX4_mayBeSold_8 : decode cX4_mayBeSold 8 = .ok (.iload 4, 2) := by decide +kernel
theorem dX4_mayBeSold_10 : decode cX4_mayBeSold 10 = .ok (.iconst (-1), 1) := by decide +kernel
theorem dX4_mayBeSold_11 : decode cX4_mayBeSold 11 = .ok (.if_icmp .eq 38, 3) := by decide +kernel
theorem dX4_mayBeSold_14 : decode cX4_mayBeSold 14 = .ok (.iload 4, 2) := by decide +kernel
theorem dX4_mayBeSold_16 : decode cX4_mayBeSold 16 = .ok (.iload_n 2, 1) := by decide +kernel
theorem dX4_mayBeSold_17 : decode cX4_mayBeSold 17 = .ok (.if_icmp .eq 32, 3) := by decide +kernel
theorem dX4_mayBeSold_20 : decode cX4_mayBeSold 20 = .ok (.iload_n 3, 1) := by decide +kernel
theorem dX4_mayBeSold_21 : decode cX4_mayBeSold 21 = .ok (.ifCond .eq 11, 3) := by decide +kernel
theorem dX4_mayBeSold_24 : decode cX4_mayBeSold 24 = .ok (.iload_n 3, 1) := by decide +kernel
theorem dX4_mayBeSold_25 : decode cX4_mayBeSold 25 = .ok (.aload_n 0, 1) := by decide +kernel
theorem dX4_mayBeSold_26 : decode cX4_mayBeSold 26 = .ok (.getfield 31, 3) := by decide +kernel
theorem dX4_mayBeSold_29 : decode cX4_mayBeSold 29 = .ok (.if_icmp .le 20, 3) := by decide +kernel
theorem dX4_mayBeSold_32 : decode cX4_mayBeSold 32 = .ok (.aload_n 0, 1) := by decide +kernel
theorem dX4_mayBeSold_33 : decode cX4_mayBeSold 33 = .ok (.getfield 18, 3) := by decide +kernel
theorem dX4_mayBeSold_36 : decode cX4_mayBeSold 36 = .ok (.iload_n 1, 1) := by decide +kernel
theorem dX4_mayBeSold_37 : decode cX4_mayBeSold 37 = .ok (.iaload, 1) := by decide +kernel
theorem dX4_mayBeSold_38 : decode cX4_mayBeSold 38 = .ok (.aload_n 0, 1) := by decide +kernel
theorem dX4_mayBeSold_39 : decode cX4_mayBeSold 39 = .ok (.getfield 31, 3) := by decide +kernel
theorem dX4_mayBeSold_42 : decode cX4_mayBeSold 42 = .ok (.if_icmp .eq 7, 3) := by decide +kernel
theorem dX4_mayBeSold_45 : decode cX4_mayBeSold 45 = .ok (.iconst 1, 1) := by decide +kernel
theorem dX4_mayBeSold_46 : decode cX4_mayBeSold 46 = .ok (.goto 4, 3) := by decide +kernel
theorem dX4_mayBeSold_49 : decode cX4_mayBeSold 49 = .ok (.iconst 0, 1) := by decide +kernel
theorem dX4_mayBeSold_50 : decode cX4_mayBeSold 50 = .ok (.ireturn, 1) := by decide +kernel
set_option maxRecDepth 20000 in
theorem ggX4_addSale_X4_mayBeSold : GoodIn wsX4_addSale wsX4_mayBeSold := goodIn_r _ [12, 3, 4, 7, 13, 14, 15, 16, 17, 18, 19] (by decide +kernel) (by decide +kernel)
set_option maxRecDepth 20000 in
theorem gX4_addSale_X4_mayBeSold : GoodIn wsX4_addSale (wsV RX4 40 RX4 yX4_mayBeSold wsX4_mayBeSold) := goodIn_app (goodIn_of _ (by decide +kernel)) ggX4_addSale_X4_mayBeSold
theorem dX4_addSale_0 : decode cX4_addSale 0 = .ok (.aload_n 0, 1) := by decide +kernel
theorem dX4_addSale_1 : decode cX4_addSale 1 = .ok (.iload_n 1, 1) := by decide +kernel
theorem dX4_addSale_2 : decode cX4_addSale 2 = .ok (.iload_n 2, 1) := by decide +kernel
theorem dX4_addSale_3 : decode cX4_addSale 3 = .ok (.iload 4, 2) := by decide +kernel
theorem dX4_addSale_5 : decode cX4_addSale 5 = .ok (.invokevirtual 40, 3) := by decide +kernel
theorem dX4_addSale_8 : decode cX4_addSale 8 = .ok (.ifCond .ne 6, 3) := by decide +kernel
theorem dX4_addSale_11 : decode cX4_addSale 11 = .ok (.bipush (-3), 2) := by decide +kernel
theorem dX4_addSale_13 : decode cX4_addSale 13 = .ok (.ireturn, 1) := by decide +kernel
theorem dX4_addSale_14 : decode cX4_addSale 14 = .ok (.aload_n 0, 1) := by decide +kernel
theorem dX4_addSale_15 : decode cX4_addSale 15 = .ok (.getfield 27, 3) := by decide +kernel
theorem dX4_addSale_18 : decode cX4_addSale 18 = .ok (.bipush 80, 2) := by decide +kernel
theorem dX4_addSale_20 : decode cX4_addSale 20 = .ok (.if_icmp .lt 6, 3) := by decide +kernel
theorem dX4_addSale_23 : decode cX4_addSale 23 = .ok (.bipush (-4), 2) := by decide +kernel
theorem dX4_addSale_25 : decode cX4_addSale 25 = .ok (.ireturn, 1) := by decide +kernel
theorem dX4_addSale_26 : decode cX4_addSale 26 = .ok (.aload_n 0, 1) := by decide +kernel
theorem dX4_addSale_27 : decode cX4_addSale 27 = .ok (.getfield 27, 3) := by decide +kernel
theorem dX4_addSale_30 : decode cX4_addSale 30 = .ok (.bipush 7, 2) := by decide +kernel
theorem dX4_addSale_32 : decode cX4_addSale 32 = .ok (.imul, 1) := by decide +kernel
theorem dX4_addSale_33 : decode cX4_addSale 33 = .ok (.istore 5, 2) := by decide +kernel
theorem dX4_addSale_35 : decode cX4_addSale 35 = .ok (.aload_n 0, 1) := by decide +kernel
theorem dX4_addSale_36 : decode cX4_addSale 36 = .ok (.getfield 21, 3) := by decide +kernel
theorem dX4_addSale_39 : decode cX4_addSale 39 = .ok (.iload 5, 2) := by decide +kernel
theorem dX4_addSale_41 : decode cX4_addSale 41 = .ok (.iconst 0, 1) := by decide +kernel
theorem dX4_addSale_42 : decode cX4_addSale 42 = .ok (.iadd, 1) := by decide +kernel
theorem dX4_addSale_43 : decode cX4_addSale 43 = .ok (.iload_n 1, 1) := by decide +kernel
theorem dX4_addSale_44 : decode cX4_addSale 44 = .ok (.iastore, 1) := by decide +kernel
theorem dX4_addSale_45 : decode cX4_addSale 45 = .ok (.aload_n 0, 1) := by decide +kernel
theorem dX4_addSale_46 : decode cX4_addSale 46 = .ok (.getfield 21, 3) := by decide +kernel
theorem dX4_addSale_49 : decode cX4_addSale 49 = .ok (.iload 5, 2) := by decide +kernel
theorem dX4_addSale_51 : decode cX4_addSale 51 = .ok (.iconst 1, 1) := by decide +kernel
theorem dX4_addSale_52 : decode cX4_addSale 52 = .ok (.iadd, 1) := by decide +kernel
theorem dX4_addSale_53 : decode cX4_addSale 53 = .ok (.aload_n 0, 1) := by decide +kernel
theorem dX4_addSale_54 : decode cX4_addSale 54 = .ok (.getfield 9, 3) := by decide +kernel
theorem dX4_addSale_57 : decode cX4_addSale 57 = .ok (.iload_n 1, 1) := by decide +kernel
theorem dX4_addSale_58 : decode cX4_addSale 58 = .ok (.iaload, 1) := by decide +kernel
theorem dX4_addSale_59 : decode cX4_addSale 59 = .ok (.iastore, 1) := by decide +kernel
theorem dX4_addSale_60 : decode cX4_addSale 60 = .ok (.aload_n 0, 1) := by decide +kernel
theorem dX4_addSale_61 : decode cX4_addSale 61 = .ok (.getfield 21, 3) := by decide +kernel
theorem dX4_addSale_64 : decode cX4_addSale 64 = .ok (.iload 5, 2) := by decide +kernel
theorem dX4_addSale_66 : decode cX4_addSale 66 = .ok (.iconst 2, 1) := by decide +kernel
theorem dX4_addSale_67 : decode cX4_addSale 67 = .ok (.iadd, 1) := by decide +kernel
theorem dX4_addSale_68 : decode cX4_addSale 68 = .ok (.iload_n 2, 1) := by decide +kernel
theorem dX4_addSale_69 : decode cX4_addSale 69 = .ok (.iastore, 1) := by decide +kernel
theorem dX4_addSale_70 : decode cX4_addSale 70 = .ok (.aload_n 0, 1) := by decide +kernel
theorem dX4_addSale_71 : decode cX4_addSale 71 = .ok (.getfield 21, 3) := by decide +kernel
theorem dX4_addSale_74 : decode cX4_addSale 74 = .ok (.iload 5, 2) := by decide +kernel
theorem dX4_addSale_76 : decode cX4_addSale 76 = .ok (.iconst 3, 1) := by decide +kernel
theorem dX4_addSale_77 : decode cX4_addSale 77 = .ok (.iadd, 1) := by decide +kernel
theorem dX4_addSale_78 : decode cX4_addSale 78 = .ok (.iload_n 3, 1) := by decide +kernel
theorem dX4_addSale_79 : decode cX4_addSale 79 = .ok (.iastore, 1) := by decide +kernel
theorem dX4_addSale_80 : decode cX4_addSale 80 = .ok (.aload_n 0, 1) := by decide +kernel
theorem dX4_addSale_81 : decode cX4_addSale 81 = .ok (.getfield 21, 3) := by decide +kernel
theorem dX4_addSale_84 : decode cX4_addSale 84 = .ok (.iload 5, 2) := by decide +kernel
theorem dX4_addSale_86 : decode cX4_addSale 86 = .ok (.iconst 4, 1) := by decide +kernel
theorem dX4_addSale_87 : decode cX4_addSale 87 = .ok (.iadd, 1) := by decide +kernel
theorem dX4_addSale_88 : decode cX4_addSale 88 = .ok (.aload_n 0, 1) := by decide +kernel
theorem dX4_addSale_89 : decode cX4_addSale 89 = .ok (.getfield 31, 3) := by decide +kernel
theorem dX4_addSale_92 : decode cX4_addSale 92 = .ok (.iastore, 1) := by decide +kernel
theorem dX4_addSale_93 : decode cX4_addSale 93 = .ok (.aload_n 0, 1) := by decide +kernel
theorem dX4_addSale_94 : decode cX4_addSale 94 = .ok (.getfield 21, 3) := by decide +kernel
theorem dX4_addSale_97 : decode cX4_addSale 97 = .ok (.iload 5, 2) := by decide +kernel
theorem dX4_addSale_99 : decode cX4_addSale 99 = .ok (.iconst 5, 1) := by decide +kernel
theorem dX4_addSale_100 : decode cX4_addSale 100 = .ok (.iadd, 1) := by decide +kernel
theorem dX4_addSale_101 : decode cX4_addSale 101 = .ok (.iload 4, 2) := by decide +kernel
theorem dX4_addSale_103 : decode cX4_addSale 103 = .ok (.iastore, 1) := by decide +kernel
theorem dX4_addSale_104 : decode cX4_addSale 104 = .ok (.aload_n 0, 1) := by decide +kernel
theorem dX4_addSale_105 : decode cX4_addSale 105 = .ok (.getfield 21, 3) := by decide +kernel
theorem dX4_addSale_108 : decode cX4_addSale 108 = .ok (.iload 5, 2) := by decide +kernel
theorem dX4_addSale_110 : decode cX4_addSale 110 = .ok (.bipush 6, 2) := by decide +kernel
theorem dX4_addSale_112 : decode cX4_addSale 112 = .ok (.iadd, 1) := by decide +kernel
theorem dX4_addSale_113 : decode cX4_addSale 113 = .ok (.iconst 1, 1) := by decide +kernel
theorem dX4_addSale_114 : decode cX4_addSale 114 = .ok (.iastore, 1) := by decide +kernel
theorem dX4_addSale_115 : decode cX4_addSale 115 = .ok (.aload_n 0, 1) := by decide +kernel
theorem dX4_addSale_116 : decode cX4_addSale 116 = .ok (.getfield 24, 3) := by decide +kernel
theorem dX4_addSale_119 : decode cX4_addSale 119 = .ok (.aload_n 0, 1) := by decide +kernel
theorem dX4_addSale_120 : decode cX4_addSale 120 = .ok (.getfield 27, 3) := by decide +kernel
theorem dX4_addSale_123 : decode cX4_addSale 123 = .ok (.aload_n 0, 1) := by decide +kernel
theorem dX4_addSale_124 : decode cX4_addSale 124 = .ok (.getfield 15, 3) := by decide +kernel
theorem dX4_addSale_127 : decode cX4_addSale 127 = .ok (.iload_n 1, 1) := by decide +kernel
theorem dX4_addSale_128 : decode cX4_addSale 128 = .ok (.iaload, 1) := by decide +kernel
theorem dX4_addSale_129 : decode cX4_addSale 129 = .ok (.iastore, 1) := by decide +kernel
theorem dX4_addSale_130 : decode cX4_addSale 130 = .ok (.aload_n 0, 1) := by decide +kernel
theorem dX4_addSale_131 : decode cX4_addSale 131 = .ok (.getfield 15, 3) := by decide +kernel
theorem dX4_addSale_134 : decode cX4_addSale 134 = .ok (.iload_n 1, 1) := by decide +kernel
theorem dX4_addSale_135 : decode cX4_addSale 135 = .ok (.aload_n 0, 1) := by decide +kernel
theorem dX4_addSale_136 : decode cX4_addSale 136 = .ok (.getfield 27, 3) := by decide +kernel
theorem dX4_addSale_139 : decode cX4_addSale 139 = .ok (.iastore, 1) := by decide +kernel
theorem dX4_addSale_140 : decode cX4_addSale 140 = .ok (.aload_n 0, 1) := by decide +kernel
theorem dX4_addSale_141 : decode cX4_addSale 141 = .ok (.getfield 18, 3) := by decide +kernel
theorem dX4_addSale_144 : decode cX4_addSale 144 = .ok (.iload_n 1, 1) := by decide +kernel
theorem dX4_addSale_145 : decode cX4_addSale 145 = .ok (.aload_n 0, 1) := by decide +kernel
theorem dX4_addSale_146 : decode cX4_addSale 146 = .ok (.getfield 31, 3) := by decide +kernel
theorem dX4_addSale_149 : decode cX4_addSale 149 = .ok (.iastore, 1) := by decide +kernel
theorem dX4_addSale_150 : decode cX4_addSale 150 = .ok (.aload_n 0, 1) := by decide +kernel
theorem dX4_addSale_151 : decode cX4_addSale 151 = .ok (.getfield 9, 3) := by decide +kernel
theorem dX4_addSale_154 : decode cX4_addSale 154 = .ok (.iload_n 1, 1) := by decide +kernel
theorem dX4_addSale_155 : decode cX4_addSale 155 = .ok (.iload_n 2, 1) := by decide +kernel
theorem dX4_addSale_156 : decode cX4_addSale 156 = .ok (.iastore, 1) := by decide +kernel
theorem dX4_addSale_157 : decode cX4_addSale 157 = .ok (.aload_n 0, 1) := by decide +kernel
theorem dX4_addSale_158 : decode cX4_addSale 158 = .ok (.dup, 1) := by decide +kernel
theorem dX4_addSale_159 : decode cX4_addSale 159 = .ok (.getfield 27, 3) := by decide +kernel
theorem dX4_addSale_162 : decode cX4_addSale 162 = .ok (.iconst 1, 1) := by decide +kernel
theorem dX4_addSale_163 : decode cX4_addSale 163 = .ok (.iadd, 1) := by decide +kernel
theorem dX4_addSale_164 : decode cX4_addSale 164 = .ok (.putfield 27, 3) := by decide +kernel
theorem dX4_addSale_167 : decode cX4_addSale 167 = .ok (.aload_n 0, 1) := by decide +kernel
theorem dX4_addSale_168 : decode cX4_addSale 168 = .ok (.getfield 27, 3) := by decide +kernel
theorem dX4_addSale_171 : decode cX4_addSale 171 = .ok (.iconst 1, 1) := by decide +kernel
theorem dX4_addSale_172 : decode cX4_addSale 172 = .ok (.isub, 1) := by decide +kernel
theorem dX4_addSale_173 : decode cX4_addSale 173 = .ok (.ireturn, 1) := by decide +kernel
set_option maxRecDepth 20000 in
theorem ggX4_giveBack_X4_field : GoodIn wsX4_giveBack wsX4_field := goodIn_r _ [10, 4, 11, 12, 13, 14, 15, 16, 17] (by decide +kernel) (by decide +kernel)
set_option maxRecDepth 20000 in
theorem gX4_giveBack_X4_field : GoodIn wsX4_giveBack (wsV RX4 44 RX4 yX4_field wsX4_field) := goodIn_app (goodIn_of _ (by decide +kernel)) ggX4_giveBack_X4_field
theorem dX4_giveBack_0 : decode cX4_giveBack 0 = .ok (.aload_n 0, 1) := by decide +kernel
theorem dX4_giveBack_1 : decode cX4_giveBack 1 = .ok (.getfield 15, 3) := by decide +kernel
theorem dX4_giveBack_4 : decode cX4_giveBack 4 = .ok (.iload_n 1, 1) := by decide +kernel
theorem dX4_giveBack_5 : decode cX4_giveBack 5 = .ok (.iaload, 1) := by decide +kernel
theorem dX4_giveBack_6 : decode cX4_giveBack 6 = .ok (.istore_n 2, 1) := by decide +kernel
theorem dX4_giveBack_7 : decode cX4_giveBack 7 = .ok (.iload_n 2, 1) := by decide +kernel
theorem dX4_giveBack_8 : decode cX4_giveBack 8 = .ok (.iconst (-1), 1) := by decide +kernel
theorem dX4_giveBack_9 : decode cX4_giveBack 9 = .ok (.if_icmp .eq 31, 3) := by decide +kernel
theorem dX4_giveBack_12 : decode cX4_giveBack 12 = .ok (.aload_n 0, 1) := by decide +kernel
theorem dX4_giveBack_13 : decode cX4_giveBack 13 = .ok (.iload_n 2, 1) := by decide +kernel
theorem dX4_giveBack_14 : decode cX4_giveBack 14 = .ok (.iconst 2, 1) := by decide +kernel
theorem dX4_giveBack_15 : decode cX4_giveBack 15 = .ok (.invokevirtual 44, 3) := by decide +kernel
theorem dX4_giveBack_18 : decode cX4_giveBack 18 = .ok (.aload_n 0, 1) := by decide +kernel
theorem dX4_giveBack_19 : decode cX4_giveBack 19 = .ok (.getfield 9, 3) := by decide +kernel
theorem dX4_giveBack_22 : decode cX4_giveBack 22 = .ok (.iload_n 1, 1) := by decide +kernel
theorem dX4_giveBack_23 : decode cX4_giveBack 23 = .ok (.iaload, 1) := by decide +kernel
theorem dX4_giveBack_24 : decode cX4_giveBack 24 = .ok (.if_icmp .ne 16, 3) := by decide +kernel
theorem dX4_giveBack_27 : decode cX4_giveBack 27 = .ok (.aload_n 0, 1) := by decide +kernel
theorem dX4_giveBack_28 : decode cX4_giveBack 28 = .ok (.iload_n 2, 1) := by decide +kernel
theorem dX4_giveBack_29 : decode cX4_giveBack 29 = .ok (.iconst 5, 1) := by decide +kernel
theorem dX4_giveBack_30 : decode cX4_giveBack 30 = .ok (.invokevirtual 44, 3) := by decide +kernel
theorem dX4_giveBack_33 : decode cX4_giveBack 33 = .ok (.aload_n 0, 1) := by decide +kernel
theorem dX4_giveBack_34 : decode cX4_giveBack 34 = .ok (.getfield 31, 3) := by decide +kernel
theorem dX4_giveBack_37 : decode cX4_giveBack 37 = .ok (.if_icmp .gt 6, 3) := by decide +kernel
theorem dX4_giveBack_40 : decode cX4_giveBack 40 = .ok (.bipush (-3), 2) := by decide +kernel
theorem dX4_giveBack_42 : decode cX4_giveBack 42 = .ok (.ireturn, 1) := by decide +kernel
theorem dX4_giveBack_43 : decode cX4_giveBack 43 = .ok (.aload_n 0, 1) := by decide +kernel
theorem dX4_giveBack_44 : decode cX4_giveBack 44 = .ok (.getfield 21, 3) := by decide +kernel
theorem dX4_giveBack_47 : decode cX4_giveBack 47 = .ok (.iload_n 2, 1) := by decide +kernel
theorem dX4_giveBack_48 : decode cX4_giveBack 48 = .ok (.bipush 7, 2) := by decide +kernel
theorem dX4_giveBack_50 : decode cX4_giveBack 50 = .ok (.imul, 1) := by decide +kernel
theorem dX4_giveBack_51 : decode cX4_giveBack 51 = .ok (.bipush 6, 2) := by decide +kernel
theorem dX4_giveBack_53 : decode cX4_giveBack 53 = .ok (.iadd, 1) := by decide +kernel
theorem dX4_giveBack_54 : decode cX4_giveBack 54 = .ok (.iconst 0, 1) := by decide +kernel
theorem dX4_giveBack_55 : decode cX4_giveBack 55 = .ok (.iastore, 1) := by decide +kernel
theorem dX4_giveBack_56 : decode cX4_giveBack 56 = .ok (.aload_n 0, 1) := by decide +kernel
theorem dX4_giveBack_57 : decode cX4_giveBack 57 = .ok (.getfield 15, 3) := by decide +kernel
theorem dX4_giveBack_60 : decode cX4_giveBack 60 = .ok (.iload_n 1, 1) := by decide +kernel
theorem dX4_giveBack_61 : decode cX4_giveBack 61 = .ok (.aload_n 0, 1) := by decide +kernel
theorem dX4_giveBack_62 : decode cX4_giveBack 62 = .ok (.getfield 24, 3) := by decide +kernel
theorem dX4_giveBack_65 : decode cX4_giveBack 65 = .ok (.iload_n 2, 1) := by decide +kernel
theorem dX4_giveBack_66 : decode cX4_giveBack 66 = .ok (.iaload, 1) := by decide +kernel
theorem dX4_giveBack_67 : decode cX4_giveBack 67 = .ok (.iastore, 1) := by decide +kernel
theorem dX4_giveBack_68 : decode cX4_giveBack 68 = .ok (.aload_n 0, 1) := by decide +kernel
theorem dX4_giveBack_69 : decode cX4_giveBack 69 = .ok (.getfield 9, 3) := by decide +kernel
theorem dX4_giveBack_72 : decode cX4_giveBack 72 = .ok (.iload_n 1, 1) := by decide +kernel
theorem dX4_giveBack_73 : decode cX4_giveBack 73 = .ok (.aload_n 0, 1) := by decide +kernel
theorem dX4_giveBack_74 : decode cX4_giveBack 74 = .ok (.iload_n 2, 1) := by decide +kernel
theorem dX4_giveBack_75 : decode cX4_giveBack 75 = .ok (.iconst 1, 1) := by decide +kernel
theorem dX4_giveBack_76 : decode cX4_giveBack 76 = .ok (.invokevirtual 44, 3) := by decide +kernel
theorem dX4_giveBack_79 : decode cX4_giveBack 79 = .ok (.iastore, 1) := by decide +kernel
theorem dX4_giveBack_80 : decode cX4_giveBack 80 = .ok (.aload_n 0, 1) := by decide +kernel
theorem dX4_giveBack_81 : decode cX4_giveBack 81 = .ok (.getfield 9, 3) := by decide +kernel
theorem dX4_giveBack_84 : decode cX4_giveBack 84 = .ok (.iload_n 1, 1) := by decide +kernel
theorem dX4_giveBack_85 : decode cX4_giveBack 85 = .ok (.iaload, 1) := by decide +kernel
theorem dX4_giveBack_86 : decode cX4_giveBack 86 = .ok (.ireturn, 1) := by decide +kernel
theorem dX4_saleCount_0 : decode cX4_saleCount 0 = .ok (.aload_n 0, 1) := by decide +kernel
theorem dX4_saleCount_1 : decode cX4_saleCount 1 = .ok (.getfield 27, 3) := by decide +kernel
theorem dX4_saleCount_4 : decode cX4_saleCount 4 = .ok (.ireturn, 1) := by decide +kernel
theorem dX4_field_0 : decode cX4_field 0 = .ok (.aload_n 0, 1) := by decide +kernel
theorem dX4_field_1 : decode cX4_field 1 = .ok (.getfield 21, 3) := by decide +kernel
theorem dX4_field_4 : decode cX4_field 4 = .ok (.iload_n 1, 1) := by decide +kernel
theorem dX4_field_5 : decode cX4_field 5 = .ok (.bipush 7, 2) := by decide +kernel
theorem dX4_field_7 : decode cX4_field 7 = .ok (.imul, 1) := by decide +kernel
theorem dX4_field_8 : decode cX4_field 8 = .ok (.iload_n 2, 1) := by decide +kernel
theorem dX4_field_9 : decode cX4_field 9 = .ok (.iadd, 1) := by decide +kernel
theorem dX4_field_10 : decode cX4_field 10 = .ok (.iaload, 1) := by decide +kernel
theorem dX4_field_11 : decode cX4_field 11 = .ok (.ireturn, 1) := by decide +kernel
set_option maxRecDepth 20000 in
theorem ggX4_stands_X4_field : GoodIn wsX4_stands wsX4_field := goodIn_r _ [5, 6, 7, 8, 9, 10, 11, 12, 13] (by decide +kernel) (by decide +kernel)
set_option maxRecDepth 20000 in
theorem gX4_stands_X4_field : GoodIn wsX4_stands (wsV RX4 44 RX4 yX4_field wsX4_field) := goodIn_app (goodIn_of _ (by decide +kernel)) ggX4_stands_X4_field
theorem dX4_stands_0 : decode cX4_stands 0 = .ok (.aload_n 0, 1) := by decide +kernel
theorem dX4_stands_1 : decode cX4_stands 1 = .ok (.iload_n 1, 1) := by decide +kernel
theorem dX4_stands_2 : decode cX4_stands 2 = .ok (.bipush 6, 2) := by decide +kernel
theorem dX4_stands_4 : decode cX4_stands 4 = .ok (.invokevirtual 44, 3) := by decide +kernel
theorem dX4_stands_7 : decode cX4_stands 7 = .ok (.iconst 1, 1) := by decide +kernel
theorem dX4_stands_8 : decode cX4_stands 8 = .ok (.if_icmp .ne 7, 3) := by decide +kernel
theorem dX4_stands_11 : decode cX4_stands 11 = .ok (.iconst 1, 1) := by decide +kernel
theorem dX4_stands_12 : decode cX4_stands 12 = .ok (.goto 4, 3) := by decide +kernel
theorem dX4_stands_15 : decode cX4_stands 15 = .ok (.iconst 0, 1) := by decide +kernel
theorem dX4_stands_16 : decode cX4_stands 16 = .ok (.ireturn, 1) := by decide +kernel
set_option maxRecDepth 20000 in
theorem ggX4_standingCount_X4_field : GoodIn wsX4_standingCount wsX4_field := goodIn_r _ [6, 7, 8, 9, 10, 11, 12, 13, 14] (by decide +kernel) (by decide +kernel)
set_option maxRecDepth 20000 in
theorem gX4_standingCount_X4_field : GoodIn wsX4_standingCount (wsV RX4 44 RX4 yX4_field wsX4_field) := goodIn_app (goodIn_of _ (by decide +kernel)) ggX4_standingCount_X4_field
theorem dX4_standingCount_0 : decode cX4_standingCount 0 = .ok (.iconst 0, 1) := by decide +kernel
theorem dX4_standingCount_1 : decode cX4_standingCount 1 = .ok (.istore_n 1, 1) := by decide +kernel
theorem dX4_standingCount_2 : decode cX4_standingCount 2 = .ok (.iconst 0, 1) := by decide +kernel
theorem dX4_standingCount_3 : decode cX4_standingCount 3 = .ok (.istore_n 2, 1) := by decide +kernel
theorem dX4_standingCount_4 : decode cX4_standingCount 4 = .ok (.iload_n 2, 1) := by decide +kernel
theorem dX4_standingCount_5 : decode cX4_standingCount 5 = .ok (.aload_n 0, 1) := by decide +kernel
theorem dX4_standingCount_6 : decode cX4_standingCount 6 = .ok (.getfield 27, 3) := by decide +kernel
theorem dX4_standingCount_9 : decode cX4_standingCount 9 = .ok (.if_icmp .ge 19, 3) := by decide +kernel
theorem dX4_standingCount_12 : decode cX4_standingCount 12 = .ok (.iload_n 1, 1) := by decide +kernel
theorem dX4_standingCount_13 : decode cX4_standingCount 13 = .ok (.aload_n 0, 1) := by decide +kernel
theorem dX4_standingCount_14 : decode cX4_standingCount 14 = .ok (.iload_n 2, 1) := by decide +kernel
theorem dX4_standingCount_15 : decode cX4_standingCount 15 = .ok (.bipush 6, 2) := by decide +kernel
theorem dX4_standingCount_17 : decode cX4_standingCount 17 = .ok (.invokevirtual 44, 3) := by decide +kernel
theorem dX4_standingCount_20 : decode cX4_standingCount 20 = .ok (.iadd, 1) := by decide +kernel
theorem dX4_standingCount_21 : decode cX4_standingCount 21 = .ok (.istore_n 1, 1) := by decide +kernel
theorem dX4_standingCount_22 : decode cX4_standingCount 22 = .ok (.iinc 2 1, 3) := by decide +kernel
theorem dX4_standingCount_25 : decode cX4_standingCount 25 = .ok (.goto (-21), 3) := by decide +kernel
theorem dX4_standingCount_28 : decode cX4_standingCount 28 = .ok (.iload_n 1, 1) := by decide +kernel
theorem dX4_standingCount_29 : decode cX4_standingCount 29 = .ok (.ireturn, 1) := by decide +kernel
set_option maxRecDepth 20000 in
theorem ggX4_gainOf_X4_stands : GoodIn wsX4_gainOf wsX4_stands := goodIn_r _ [6, 7, 8, 9, 5, 10, 11, 12, 13, 14, 15, 16, 17, 18] (by decide +kernel) (by decide +kernel)
set_option maxRecDepth 20000 in
theorem gX4_gainOf_X4_stands : GoodIn wsX4_gainOf (wsV RX4 48 RX4 yX4_stands wsX4_stands) := goodIn_app (goodIn_of _ (by decide +kernel)) ggX4_gainOf_X4_stands
set_option maxRecDepth 20000 in
theorem ggX4_gainOf_X4_field : GoodIn wsX4_gainOf wsX4_field := goodIn_r _ [10, 11, 12, 13, 14, 15, 16, 17, 18] (by decide +kernel) (by decide +kernel)
set_option maxRecDepth 20000 in
theorem gX4_gainOf_X4_field : GoodIn wsX4_gainOf (wsV RX4 44 RX4 yX4_field wsX4_field) := goodIn_app (goodIn_of _ (by decide +kernel)) ggX4_gainOf_X4_field
theorem dX4_gainOf_0 : decode cX4_gainOf 0 = .ok (.iconst 0, 1) := by decide +kernel
theorem dX4_gainOf_1 : decode cX4_gainOf 1 = .ok (.istore_n 2, 1) := by decide +kernel
theorem dX4_gainOf_2 : decode cX4_gainOf 2 = .ok (.iconst 0, 1) := by decide +kernel
theorem dX4_gainOf_3 : decode cX4_gainOf 3 = .ok (.istore_n 3, 1) := by decide +kernel
theorem dX4_gainOf_4 : decode cX4_gainOf 4 = .ok (.iload_n 3, 1) := by decide +kernel
theorem dX4_gainOf_5 : decode cX4_gainOf 5 = .ok (.aload_n 0, 1) := by decide +kernel
theorem dX4_gainOf_6 : decode cX4_gainOf 6 = .ok (.getfield 27, 3) := by decide +kernel
theorem dX4_gainOf_9 : decode cX4_gainOf 9 = .ok (.if_icmp .ge 63, 3) := by decide +kernel
theorem dX4_gainOf_12 : decode cX4_gainOf 12 = .ok (.aload_n 0, 1) := by decide +kernel
theorem dX4_gainOf_13 : decode cX4_gainOf 13 = .ok (.iload_n 3, 1) := by decide +kernel
theorem dX4_gainOf_14 : decode cX4_gainOf 14 = .ok (.invokevirtual 48, 3) := by decide +kernel
theorem dX4_gainOf_17 : decode cX4_gainOf 17 = .ok (.ifCond .eq 22, 3) := by decide +kernel
theorem dX4_gainOf_20 : decode cX4_gainOf 20 = .ok (.aload_n 0, 1) := by decide +kernel
theorem dX4_gainOf_21 : decode cX4_gainOf 21 = .ok (.iload_n 3, 1) := by decide +kernel
theorem dX4_gainOf_22 : decode cX4_gainOf 22 = .ok (.iconst 1, 1) := by decide +kernel
theorem dX4_gainOf_23 : decode cX4_gainOf 23 = .ok (.invokevirtual 44, 3) := by decide +kernel
theorem dX4_gainOf_26 : decode cX4_gainOf 26 = .ok (.iload_n 1, 1) := by decide +kernel
theorem dX4_gainOf_27 : decode cX4_gainOf 27 = .ok (.if_icmp .ne 12, 3) := by decide +kernel
theorem dX4_gainOf_30 : decode cX4_gainOf 30 = .ok (.iload_n 2, 1) := by decide +kernel
theorem dX4_gainOf_31 : decode cX4_gainOf 31 = .ok (.aload_n 0, 1) := by decide +kernel
theorem dX4_gainOf_32 : decode cX4_gainOf 32 = .ok (.iload_n 3, 1) := by decide +kernel
theorem dX4_gainOf_33 : decode cX4_gainOf 33 = .ok (.iconst 3, 1) := by decide +kernel
theorem dX4_gainOf_34 : decode cX4_gainOf 34 = .ok (.invokevirtual 44, 3) := by decide +kernel
theorem dX4_gainOf_37 : decode cX4_gainOf 37 = .ok (.iadd, 1) := by decide +kernel
theorem dX4_gainOf_38 : decode cX4_gainOf 38 = .ok (.istore_n 2, 1) := by decide +kernel
theorem dX4_gainOf_39 : decode cX4_gainOf 39 = .ok (.aload_n 0, 1) := by decide +kernel
theorem dX4_gainOf_40 : decode cX4_gainOf 40 = .ok (.iload_n 3, 1) := by decide +kernel
theorem dX4_gainOf_41 : decode cX4_gainOf 41 = .ok (.invokevirtual 48, 3) := by decide +kernel
theorem dX4_gainOf_44 : decode cX4_gainOf 44 = .ok (.ifCond .eq 22, 3) := by decide +kernel
theorem dX4_gainOf_47 : decode cX4_gainOf 47 = .ok (.aload_n 0, 1) := by decide +kernel
theorem dX4_gainOf_48 : decode cX4_gainOf 48 = .ok (.iload_n 3, 1) := by decide +kernel
theorem dX4_gainOf_49 : decode cX4_gainOf 49 = .ok (.iconst 2, 1) := by decide +kernel
theorem dX4_gainOf_50 : decode cX4_gainOf 50 = .ok (.invokevirtual 44, 3) := by decide +kernel
theorem dX4_gainOf_53 : decode cX4_gainOf 53 = .ok (.iload_n 1, 1) := by decide +kernel
theorem dX4_gainOf_54 : decode cX4_gainOf 54 = .ok (.if_icmp .ne 12, 3) := by decide +kernel
theorem dX4_gainOf_57 : decode cX4_gainOf 57 = .ok (.iload_n 2, 1) := by decide +kernel
theorem dX4_gainOf_58 : decode cX4_gainOf 58 = .ok (.aload_n 0, 1) := by decide +kernel
theorem dX4_gainOf_59 : decode cX4_gainOf 59 = .ok (.iload_n 3, 1) := by decide +kernel
theorem dX4_gainOf_60 : decode cX4_gainOf 60 = .ok (.iconst 3, 1) := by decide +kernel
theorem dX4_gainOf_61 : decode cX4_gainOf 61 = .ok (.invokevirtual 44, 3) := by decide +kernel
theorem dX4_gainOf_64 : decode cX4_gainOf 64 = .ok (.isub, 1) := by decide +kernel
theorem dX4_gainOf_65 : decode cX4_gainOf 65 = .ok (.istore_n 2, 1) := by decide +kernel
theorem dX4_gainOf_66 : decode cX4_gainOf 66 = .ok (.iinc 3 1, 3) := by decide +kernel
theorem dX4_gainOf_69 : decode cX4_gainOf 69 = .ok (.goto (-65), 3) := by decide +kernel
theorem dX4_gainOf_72 : decode cX4_gainOf 72 = .ok (.iload_n 2, 1) := by decide +kernel
theorem dX4_gainOf_73 : decode cX4_gainOf 73 = .ok (.ireturn, 1) := by decide +kernel
set_option maxRecDepth 20000 in
theorem ggX4_riseOf_X4_stands : GoodIn wsX4_riseOf wsX4_stands := goodIn_r _ [6, 7, 8, 9, 5, 10, 11, 12, 13, 14, 15, 16, 17, 18] (by decide +kernel) (by decide +kernel)
set_option maxRecDepth 20000 in
theorem gX4_riseOf_X4_stands : GoodIn wsX4_riseOf (wsV RX4 48 RX4 yX4_stands wsX4_stands) := goodIn_app (goodIn_of _ (by decide +kernel)) ggX4_riseOf_X4_stands
set_option maxRecDepth 20000 in
theorem ggX4_riseOf_X4_field : GoodIn wsX4_riseOf wsX4_field := goodIn_r _ [10, 11, 12, 13, 14, 15, 16, 17, 18] (by decide +kernel) (by decide +kernel)
set_option maxRecDepth 20000 in
theorem gX4_riseOf_X4_field : GoodIn wsX4_riseOf (wsV RX4 44 RX4 yX4_field wsX4_field) := goodIn_app (goodIn_of _ (by decide +kernel)) ggX4_riseOf_X4_field
theorem dX4_riseOf_0 : decode cX4_riseOf 0 = .ok (.iconst (-1), 1) := by decide +kernel
theorem dX4_riseOf_1 : decode cX4_riseOf 1 = .ok (.istore_n 2, 1) := by decide +kernel
theorem dX4_riseOf_2 : decode cX4_riseOf 2 = .ok (.iconst (-1), 1) := by decide +kernel
theorem dX4_riseOf_3 : decode cX4_riseOf 3 = .ok (.istore_n 3, 1) := by decide +kernel
theorem dX4_riseOf_4 : decode cX4_riseOf 4 = .ok (.iconst 0, 1) := by decide +kernel
theorem dX4_riseOf_5 : decode cX4_riseOf 5 = .ok (.istore 4, 2) := by decide +kernel
theorem dX4_riseOf_7 : decode cX4_riseOf 7 = .ok (.iload 4, 2) := by decide +kernel
theorem dX4_riseOf_9 : decode cX4_riseOf 9 = .ok (.aload_n 0, 1) := by decide +kernel
theorem dX4_riseOf_10 : decode cX4_riseOf 10 = .ok (.getfield 27, 3) := by decide +kernel
theorem dX4_riseOf_13 : decode cX4_riseOf 13 = .ok (.if_icmp .ge 44, 3) := by decide +kernel
theorem dX4_riseOf_16 : decode cX4_riseOf 16 = .ok (.aload_n 0, 1) := by decide +kernel
theorem dX4_riseOf_17 : decode cX4_riseOf 17 = .ok (.iload 4, 2) := by decide +kernel
theorem dX4_riseOf_19 : decode cX4_riseOf 19 = .ok (.invokevirtual 48, 3) := by decide +kernel
theorem dX4_riseOf_22 : decode cX4_riseOf 22 = .ok (.ifCond .eq 29, 3) := by decide +kernel
theorem dX4_riseOf_25 : decode cX4_riseOf 25 = .ok (.aload_n 0, 1) := by decide +kernel
theorem dX4_riseOf_26 : decode cX4_riseOf 26 = .ok (.iload 4, 2) := by decide +kernel
theorem dX4_riseOf_28 : decode cX4_riseOf 28 = .ok (.iconst 0, 1) := by decide +kernel
theorem dX4_riseOf_29 : decode cX4_riseOf 29 = .ok (.invokevirtual 44, 3) := by decide +kernel
theorem dX4_riseOf_32 : decode cX4_riseOf 32 = .ok (.iload_n 1, 1) := by decide +kernel
theorem dX4_riseOf_33 : decode cX4_riseOf 33 = .ok (.if_icmp .ne 18, 3) := by decide +kernel
theorem dX4_riseOf_36 : decode cX4_riseOf 36 = .ok (.iload_n 2, 1) := by decide +kernel
theorem dX4_riseOf_37 : decode cX4_riseOf 37 = .ok (.iconst (-1), 1) := by decide +kernel
theorem dX4_riseOf_38 : decode cX4_riseOf 38 = .ok (.if_icmp .ne 8, 3) := by decide +kernel
theorem dX4_riseOf_41 : decode cX4_riseOf 41 = .ok (.iload 4, 2) := by decide +kernel
theorem dX4_riseOf_43 : decode cX4_riseOf 43 = .ok (.goto 4, 3) := by decide +kernel
theorem dX4_riseOf_46 : decode cX4_riseOf 46 = .ok (.iload_n 2, 1) := by decide +kernel
theorem dX4_riseOf_47 : decode cX4_riseOf 47 = .ok (.istore_n 2, 1) := by decide +kernel
theorem dX4_riseOf_48 : decode cX4_riseOf 48 = .ok (.iload 4, 2) := by decide +kernel
theorem dX4_riseOf_50 : decode cX4_riseOf 50 = .ok (.istore_n 3, 1) := by decide +kernel
theorem dX4_riseOf_51 : decode cX4_riseOf 51 = .ok (.iinc 4 1, 3) := by decide +kernel
theorem dX4_riseOf_54 : decode cX4_riseOf 54 = .ok (.goto (-47), 3) := by decide +kernel
theorem dX4_riseOf_57 : decode cX4_riseOf 57 = .ok (.iload_n 2, 1) := by decide +kernel
theorem dX4_riseOf_58 : decode cX4_riseOf 58 = .ok (.iconst (-1), 1) := by decide +kernel
theorem dX4_riseOf_59 : decode cX4_riseOf 59 = .ok (.if_icmp .ne 7, 3) := by decide +kernel
theorem dX4_riseOf_62 : decode cX4_riseOf 62 = .ok (.iconst 0, 1) := by decide +kernel
theorem dX4_riseOf_63 : decode cX4_riseOf 63 = .ok (.goto 16, 3) := by decide +kernel
theorem dX4_riseOf_66 : decode cX4_riseOf 66 = .ok (.aload_n 0, 1) := by decide +kernel
theorem dX4_riseOf_67 : decode cX4_riseOf 67 = .ok (.iload_n 3, 1) := by decide +kernel
theorem dX4_riseOf_68 : decode cX4_riseOf 68 = .ok (.iconst 3, 1) := by decide +kernel
theorem dX4_riseOf_69 : decode cX4_riseOf 69 = .ok (.invokevirtual 44, 3) := by decide +kernel
theorem dX4_riseOf_72 : decode cX4_riseOf 72 = .ok (.aload_n 0, 1) := by decide +kernel
theorem dX4_riseOf_73 : decode cX4_riseOf 73 = .ok (.iload_n 2, 1) := by decide +kernel
theorem dX4_riseOf_74 : decode cX4_riseOf 74 = .ok (.iconst 3, 1) := by decide +kernel
theorem dX4_riseOf_75 : decode cX4_riseOf 75 = .ok (.invokevirtual 44, 3) := by decide +kernel
theorem dX4_riseOf_78 : decode cX4_riseOf 78 = .ok (.isub, 1) := by decide +kernel
theorem dX4_riseOf_79 : decode cX4_riseOf 79 = .ok (.ireturn, 1) := by decide +kernel
set_option maxRecDepth 20000 in
theorem ggX4_mixSales_X5_mix : GoodIn wsX4_mixSales wsX5_mix := goodIn_r _ [5, 6] (by decide +kernel) (by decide +kernel)
set_option maxRecDepth 20000 in
theorem gX4_mixSales_X5_mix_n52 : GoodIn wsX4_mixSales (wsX5_mix) := ggX4_mixSales_X5_mix
theorem dX4_mixSales_0 : decode cX4_mixSales 0 = .ok (.lload_n 1, 1) := by decide +kernel
theorem dX4_mixSales_1 : decode cX4_mixSales 1 = .ok (.lstore_n 3, 1) := by decide +kernel
theorem dX4_mixSales_2 : decode cX4_mixSales 2 = .ok (.iconst 0, 1) := by decide +kernel
theorem dX4_mixSales_3 : decode cX4_mixSales 3 = .ok (.istore 5, 2) := by decide +kernel
theorem dX4_mixSales_5 : decode cX4_mixSales 5 = .ok (.iload 5, 2) := by decide +kernel
theorem dX4_mixSales_7 : decode cX4_mixSales 7 = .ok (.aload_n 0, 1) := by decide +kernel
theorem dX4_mixSales_8 : decode cX4_mixSales 8 = .ok (.getfield 27, 3) := by decide +kernel
theorem dX4_mixSales_11 : decode cX4_mixSales 11 = .ok (.bipush 7, 2) := by decide +kernel
theorem dX4_mixSales_13 : decode cX4_mixSales 13 = .ok (.imul, 1) := by decide +kernel
theorem dX4_mixSales_14 : decode cX4_mixSales 14 = .ok (.if_icmp .ge 21, 3) := by decide +kernel
theorem dX4_mixSales_17 : decode cX4_mixSales 17 = .ok (.lload_n 3, 1) := by decide +kernel
theorem dX4_mixSales_18 : decode cX4_mixSales 18 = .ok (.aload_n 0, 1) := by decide +kernel
theorem dX4_mixSales_19 : decode cX4_mixSales 19 = .ok (.getfield 21, 3) := by decide +kernel
theorem dX4_mixSales_22 : decode cX4_mixSales 22 = .ok (.iload 5, 2) := by decide +kernel
theorem dX4_mixSales_24 : decode cX4_mixSales 24 = .ok (.iaload, 1) := by decide +kernel
theorem dX4_mixSales_25 : decode cX4_mixSales 25 = .ok (.invokestatic 52, 3) := by decide +kernel
theorem dX4_mixSales_28 : decode cX4_mixSales 28 = .ok (.lstore_n 3, 1) := by decide +kernel
theorem dX4_mixSales_29 : decode cX4_mixSales 29 = .ok (.iinc 5 1, 3) := by decide +kernel
theorem dX4_mixSales_32 : decode cX4_mixSales 32 = .ok (.goto (-27), 3) := by decide +kernel
theorem dX4_mixSales_35 : decode cX4_mixSales 35 = .ok (.lload_n 3, 1) := by decide +kernel
theorem dX4_mixSales_36 : decode cX4_mixSales 36 = .ok (.lreturn, 1) := by decide +kernel
set_option maxRecDepth 20000 in
theorem ggX5_init_X2_init : GoodIn wsX5_init wsX2_init := goodIn_r _ [26, 27, 2, 3, 28, 29, 30, 31, 32, 33, 34, 35, 36, 37, 70, 71, 72, 73, 74] (by decide +kernel) (by decide +kernel)
set_option maxRecDepth 20000 in
theorem gX5_init_X2_init : GoodIn wsX5_init (wsX2_init) := ggX5_init_X2_init
set_option maxRecDepth 20000 in
theorem ggX5_init_X4_init : GoodIn wsX5_init wsX4_init := goodIn_r _ [40, 41, 2, 3, 28, 42, 43, 44, 45, 46, 47, 48, 49, 35, 36, 37, 80, 81, 82, 83, 84, 85, 86] (by decide +kernel) (by decide +kernel)
set_option maxRecDepth 20000 in
theorem gX5_init_X4_init : GoodIn wsX5_init (wsX4_init) := ggX5_init_X4_init
set_option maxRecDepth 20000 in
theorem ggX5_init_X0_init : GoodIn wsX5_init wsX0_init := goodIn_r _ [51, 52, 2, 3, 28, 53, 54, 55, 56, 87, 88, 89, 90] (by decide +kernel) (by decide +kernel)
set_option maxRecDepth 20000 in
theorem gX5_init_X0_init_n25 : GoodIn wsX5_init (wsX0_init) := ggX5_init_X0_init
set_option maxRecDepth 20000 in
theorem ggX5_init_X3_init : GoodIn wsX5_init wsX3_init := goodIn_r _ [58, 59, 2, 3, 28, 60, 61, 62, 63, 64, 65, 91, 92, 93, 94, 95, 96] (by decide +kernel) (by decide +kernel)
set_option maxRecDepth 20000 in
theorem gX5_init_X3_init_n32 : GoodIn wsX5_init (wsX3_init) := ggX5_init_X3_init
set_option maxRecDepth 20000 in
theorem ggX5_init_X1_init : GoodIn wsX5_init wsX1_init := goodIn_r _ [67, 68, 2, 3, 28, 69, 97] (by decide +kernel) (by decide +kernel)
set_option maxRecDepth 20000 in
theorem gX5_init_X1_init_n39 : GoodIn wsX5_init (wsX1_init) := ggX5_init_X1_init
theorem dX5_init_0 : decode cX5_init 0 = .ok (.aload_n 0, 1) := by decide +kernel
theorem dX5_init_1 : decode cX5_init 1 = .ok (.invokespecial 3, 3) := by decide +kernel
theorem dX5_init_4 : decode cX5_init 4 = .ok (.aload_n 0, 1) := by decide +kernel
theorem dX5_init_5 : decode cX5_init 5 = .ok (.new 9, 3) := by decide +kernel
theorem dX5_init_8 : decode cX5_init 8 = .ok (.dup, 1) := by decide +kernel
theorem dX5_init_9 : decode cX5_init 9 = .ok (.invokespecial 11, 3) := by decide +kernel
theorem dX5_init_12 : decode cX5_init 12 = .ok (.putfield 12, 3) := by decide +kernel
theorem dX5_init_15 : decode cX5_init 15 = .ok (.aload_n 0, 1) := by decide +kernel
theorem dX5_init_16 : decode cX5_init 16 = .ok (.new 16, 3) := by decide +kernel
theorem dX5_init_19 : decode cX5_init 19 = .ok (.dup, 1) := by decide +kernel
theorem dX5_init_20 : decode cX5_init 20 = .ok (.invokespecial 18, 3) := by decide +kernel
theorem dX5_init_23 : decode cX5_init 23 = .ok (.putfield 19, 3) := by decide +kernel
theorem dX5_init_26 : decode cX5_init 26 = .ok (.aload_n 0, 1) := by decide +kernel
theorem dX5_init_27 : decode cX5_init 27 = .ok (.new 23, 3) := by decide +kernel
theorem dX5_init_30 : decode cX5_init 30 = .ok (.dup, 1) := by decide +kernel
theorem dX5_init_31 : decode cX5_init 31 = .ok (.invokespecial 25, 3) := by decide +kernel
theorem dX5_init_34 : decode cX5_init 34 = .ok (.putfield 26, 3) := by decide +kernel
theorem dX5_init_37 : decode cX5_init 37 = .ok (.aload_n 0, 1) := by decide +kernel
theorem dX5_init_38 : decode cX5_init 38 = .ok (.new 30, 3) := by decide +kernel
theorem dX5_init_41 : decode cX5_init 41 = .ok (.dup, 1) := by decide +kernel
theorem dX5_init_42 : decode cX5_init 42 = .ok (.invokespecial 32, 3) := by decide +kernel
theorem dX5_init_45 : decode cX5_init 45 = .ok (.putfield 33, 3) := by decide +kernel
theorem dX5_init_48 : decode cX5_init 48 = .ok (.aload_n 0, 1) := by decide +kernel
theorem dX5_init_49 : decode cX5_init 49 = .ok (.new 37, 3) := by decide +kernel
theorem dX5_init_52 : decode cX5_init 52 = .ok (.dup, 1) := by decide +kernel
theorem dX5_init_53 : decode cX5_init 53 = .ok (.invokespecial 39, 3) := by decide +kernel
theorem dX5_init_56 : decode cX5_init 56 = .ok (.putfield 40, 3) := by decide +kernel
theorem dX5_init_59 : decode cX5_init 59 = .ok (.return_, 1) := by decide +kernel
set_option maxRecDepth 20000 in
theorem ggX5_work_X5_within : GoodIn wsX5_work wsX5_within := goodIn_r _ [5] (by decide +kernel) (by decide +kernel)
set_option maxRecDepth 20000 in
theorem gX5_work_X5_within : GoodIn wsX5_work (va_wsS RX5 44 yX5_within wsX5_within) := goodIn_app (goodIn_of _ (by decide +kernel)) ggX5_work_X5_within
set_option maxRecDepth 20000 in
theorem ggX5_work_X2_setYears : GoodIn wsX5_work wsX2_setYears := goodIn_r _ [10, 11, 12, 18, 19, 20, 21, 22] (by decide +kernel) (by decide +kernel)
set_option maxRecDepth 20000 in
theorem gX5_work_X2_setYears : GoodIn wsX5_work (wsV RX5 48 RX2 yX2_setYears wsX2_setYears) := goodIn_app (goodIn_of _ (by decide +kernel)) ggX5_work_X2_setYears
theorem dX5_work_0 : decode cX5_work 0 = .ok (.iload_n 1, 1) := by decide +kernel
theorem dX5_work_1 : decode cX5_work 1 = .ok (.iconst 0, 1) := by decide +kernel
theorem dX5_work_2 : decode cX5_work 2 = .ok (.bipush 9, 2) := by decide +kernel
theorem dX5_work_4 : decode cX5_work 4 = .ok (.invokestatic 44, 3) := by decide +kernel
theorem dX5_work_7 : decode cX5_work 7 = .ok (.ifCond .eq 27, 3) := by decide +kernel
theorem dX5_work_10 : decode cX5_work 10 = .ok (.iload_n 2, 1) := by decide +kernel
theorem dX5_work_11 : decode cX5_work 11 = .ok (.sipush 1600, 3) := by decide +kernel
theorem dX5_work_14 : decode cX5_work 14 = .ok (.sipush 1950, 3) := by decide +kernel
theorem dX5_work_17 : decode cX5_work 17 = .ok (.invokestatic 44, 3) := by decide +kernel
theorem dX5_work_20 : decode cX5_work 20 = .ok (.ifCond .eq 14, 3) := by decide +kernel
theorem dX5_work_23 : decode cX5_work 23 = .ok (.iload_n 3, 1) := by decide +kernel
theorem dX5_work_24 : decode cX5_work 24 = .ok (.iload_n 2, 1) := by decide +kernel
theorem dX5_work_25 : decode cX5_work 25 = .ok (.sipush 1950, 3) := by decide +kernel
theorem dX5_work_28 : decode cX5_work 28 = .ok (.invokestatic 44, 3) := by decide +kernel
theorem dX5_work_31 : decode cX5_work 31 = .ok (.ifCond .ne 6, 3) := by decide +kernel
theorem dX5_work_34 : decode cX5_work 34 = .ok (.bipush (-2), 2) := by decide +kernel
theorem dX5_work_36 : decode cX5_work 36 = .ok (.ireturn, 1) := by decide +kernel
theorem dX5_work_37 : decode cX5_work 37 = .ok (.aload_n 0, 1) := by decide +kernel
theorem dX5_work_38 : decode cX5_work 38 = .ok (.getfield 12, 3) := by decide +kernel
theorem dX5_work_41 : decode cX5_work 41 = .ok (.iload_n 1, 1) := by decide +kernel
theorem dX5_work_42 : decode cX5_work 42 = .ok (.iload_n 2, 1) := by decide +kernel
theorem dX5_work_43 : decode cX5_work 43 = .ok (.iload_n 3, 1) := by decide +kernel
theorem dX5_work_44 : decode cX5_work 44 = .ok (.invokevirtual 48, 3) := by decide +kernel
theorem dX5_work_47 : decode cX5_work 47 = .ok (.iconst 1, 1) := by decide +kernel
theorem dX5_work_48 : decode cX5_work 48 = .ok (.ireturn, 1) := by decide +kernel
set_option maxRecDepth 20000 in
theorem ggX5_thing_X5_within : GoodIn wsX5_thing wsX5_within := goodIn_r _ [5] (by decide +kernel) (by decide +kernel)
set_option maxRecDepth 20000 in
theorem gX5_thing_X5_within : GoodIn wsX5_thing (va_wsS RX5 44 yX5_within wsX5_within) := goodIn_app (goodIn_of _ (by decide +kernel)) ggX5_thing_X5_within
set_option maxRecDepth 20000 in
theorem ggX5_thing_X2_addThing : GoodIn wsX5_thing wsX2_addThing := goodIn_r _ [10, 11, 12, 18, 19, 20, 21, 22] (by decide +kernel) (by decide +kernel)
set_option maxRecDepth 20000 in
theorem gX5_thing_X2_addThing : GoodIn wsX5_thing (wsV RX5 52 RX2 yX2_addThing wsX2_addThing) := goodIn_app (goodIn_of _ (by decide +kernel)) ggX5_thing_X2_addThing
theorem dX5_thing_0 : decode cX5_thing 0 = .ok (.iload_n 1, 1) := by decide +kernel
theorem dX5_thing_1 : decode cX5_thing 1 = .ok (.iconst 1, 1) := by decide +kernel
theorem dX5_thing_2 : decode cX5_thing 2 = .ok (.iconst 5, 1) := by decide +kernel
theorem dX5_thing_3 : decode cX5_thing 3 = .ok (.invokestatic 44, 3) := by decide +kernel
theorem dX5_thing_6 : decode cX5_thing 6 = .ok (.ifCond .ne 6, 3) := by decide +kernel
theorem dX5_thing_9 : decode cX5_thing 9 = .ok (.bipush (-2), 2) := by decide +kernel
theorem dX5_thing_11 : decode cX5_thing 11 = .ok (.ireturn, 1) := by decide +kernel
theorem dX5_thing_12 : decode cX5_thing 12 = .ok (.aload_n 0, 1) := by decide +kernel
theorem dX5_thing_13 : decode cX5_thing 13 = .ok (.getfield 12, 3) := by decide +kernel
theorem dX5_thing_16 : decode cX5_thing 16 = .ok (.iload_n 1, 1) := by decide +kernel
theorem dX5_thing_17 : decode cX5_thing 17 = .ok (.invokevirtual 52, 3) := by decide +kernel
theorem dX5_thing_20 : decode cX5_thing 20 = .ok (.ireturn, 1) := by decide +kernel
set_option maxRecDepth 20000 in
theorem ggX5_part_X2_hasPart : GoodIn wsX5_part wsX2_hasPart := goodIn_r _ [6, 7, 8, 9, 10, 5, 11, 12, 13, 14, 15, 31, 32, 33, 34, 35] (by decide +kernel) (by decide +kernel)
set_option maxRecDepth 20000 in
theorem gX5_part_X2_hasPart : GoodIn wsX5_part (wsV RX5 56 RX2 yX2_hasPart wsX2_hasPart) := goodIn_app (goodIn_of _ (by decide +kernel)) ggX5_part_X2_hasPart
set_option maxRecDepth 20000 in
theorem ggX5_part_X5_within : GoodIn wsX5_part wsX5_within := goodIn_r _ [15] (by decide +kernel) (by decide +kernel)
set_option maxRecDepth 20000 in
theorem gX5_part_X5_within : GoodIn wsX5_part (va_wsS RX5 44 yX5_within wsX5_within) := goodIn_app (goodIn_of _ (by decide +kernel)) ggX5_part_X5_within
set_option maxRecDepth 20000 in
theorem ggX5_part_X2_changeWorks : GoodIn wsX5_part wsX2_changeWorks := goodIn_r _ [20, 21, 22, 23, 24, 5, 25, 31, 32, 33, 34, 35] (by decide +kernel) (by decide +kernel)
set_option maxRecDepth 20000 in
theorem gX5_part_X2_changeWorks : GoodIn wsX5_part (wsV RX5 60 RX2 yX2_changeWorks wsX2_changeWorks) := goodIn_app (goodIn_of _ (by decide +kernel)) ggX5_part_X2_changeWorks
theorem dX5_part_0 : decode cX5_part 0 = .ok (.aload_n 0, 1) := by decide +kernel
theorem dX5_part_1 : decode cX5_part 1 = .ok (.getfield 12, 3) := by decide +kernel
theorem dX5_part_4 : decode cX5_part 4 = .ok (.iload_n 1, 1) := by decide +kernel
theorem dX5_part_5 : decode cX5_part 5 = .ok (.iload_n 2, 1) := by decide +kernel
theorem dX5_part_6 : decode cX5_part 6 = .ok (.invokevirtual 56, 3) := by decide +kernel
theorem dX5_part_9 : decode cX5_part 9 = .ok (.ifCond .eq 14, 3) := by decide +kernel
theorem dX5_part_12 : decode cX5_part 12 = .ok (.iload_n 3, 1) := by decide +kernel
theorem dX5_part_13 : decode cX5_part 13 = .ok (.iconst 0, 1) := by decide +kernel
theorem dX5_part_14 : decode cX5_part 14 = .ok (.sipush 1023, 3) := by decide +kernel
theorem dX5_part_17 : decode cX5_part 17 = .ok (.invokestatic 44, 3) := by decide +kernel
theorem dX5_part_20 : decode cX5_part 20 = .ok (.ifCond .ne 6, 3) := by decide +kernel
theorem dX5_part_23 : decode cX5_part 23 = .ok (.bipush (-2), 2) := by decide +kernel
theorem dX5_part_25 : decode cX5_part 25 = .ok (.ireturn, 1) := by decide +kernel
theorem dX5_part_26 : decode cX5_part 26 = .ok (.aload_n 0, 1) := by decide +kernel
theorem dX5_part_27 : decode cX5_part 27 = .ok (.getfield 12, 3) := by decide +kernel
theorem dX5_part_30 : decode cX5_part 30 = .ok (.iload_n 1, 1) := by decide +kernel
