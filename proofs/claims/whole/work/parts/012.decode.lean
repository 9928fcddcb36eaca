theorem dX4_handOver_15 : decode cX4_handOver 15 = .ok (.getfield 15, 3) := by decide +kernel
theorem dX4_handOver_18 : decode cX4_handOver 18 = .ok (.iload_n 1, 1) := by decide +kernel
theorem dX4_handOver_19 : decode cX4_handOver 19 = .ok (.iconst (-1), 1) := by decide +kernel
theorem dX4_handOver_20 : decode cX4_handOver 20 = .ok (.iastore, 1) := by decide +kernel
theorem dX4_handOver_21 : decode cX4_handOver 21 = .ok (.iload_n 3, 1) := by decide +kernel
theorem dX4_handOver_22 : decode cX4_handOver 22 = .ok (.ireturn, 1) := by decide +kernel
theorem dX4_currentHour_0 : decode cX4_currentHour 0 = .ok (.aload_n 0, 1) := by decide +kernel
theorem dX4_currentHour_1 : decode cX4_currentHour 1 = .ok (.getfield 31, 3) := by decide +kernel
theorem dX4_currentHour_4 : decode cX4_currentHour 4 = .ok (.ireturn, 1) := by decide +kernel
theorem dX4_passHours_0 : decode cX4_passHours 0 = .ok (.aload_n 0, 1) := by decide +kernel
theorem dX4_passHours_1 : decode cX4_passHours 1 = .ok (.dup, 1) := by decide +kernel
theorem dX4_passHours_2 : decode cX4_passHours 2 = .ok (.getfield 31, 3) := by decide +kernel
theorem dX4_passHours_5 : decode cX4_passHours 5 = .ok (.iload_n 1, 1) := by decide +kernel
theorem dX4_passHours_6 : decode cX4_passHours 6 = .ok (.iadd, 1) := by decide +kernel
theorem dX4_passHours_7 : decode cX4_passHours 7 = .ok (.putfield 31, 3) := by decide +kernel
theorem dX4_passHours_10 : decode cX4_passHours 10 = .ok (.aload_n 0, 1) := by decide +kernel
theorem dX4_passHours_11 : decode cX4_passHours 11 = .ok (.getfield 31, 3) := by decide +kernel
theorem dX4_passHours_14 : decode cX4_passHours 14 = .ok (.ireturn, 1) := by decide +kernel
theorem dX4_mayBeSold_0 : decode cX4_mayBeSold 0 = .ok (.aload_n 0, 1) := by decide +kernel
theorem dX4_mayBeSold_1 : decode cX4_mayBeSold 1 = .ok (.getfield 9, 3) := by decide +kernel
theorem dX4_mayBeSold_4 : decode cX4_mayBeSold 4 = .ok (.iload_n 1, 1) := by decide +kernel
theorem dX4_mayBeSold_5 : decode cX4_mayBeSold 5 = .ok (.iaload, 1) := by decide +kernel
theorem dX4_mayBeSold_6 : decode cX4_mayBeSold 6 = .ok (.istore 4, 2) := by decide +kernel
theorem dX4_mayBeSold_8 : decode cX4_mayBeSold 8 = .ok (.iload 4, 2) := by decide +kernel
theorem dX4_mayBeSold_10 : decode cX4_mayBeSold 10 = .ok (.iconst (-1), 1) := by decide +kernel
theorem dX4_mayBeSold_11 : decode cX4_mayBeSold 11 = .ok (.if_icmp .eq 38, 3) := by decide +kernel
theorem dX4_mayBeSold_14 : decode cX4_mayBeSold 14 = .ok (.iload 4, 2) := by decide +kernel
theorem dX4_mayBeSold_16 : decode cX4_mayBeSold 16 = .ok (.iload_n 2, 1) := by decide +kernel
theorem dX4_mayBeSold_17 : decode cX4_mayBeSold 17 = .ok (.if_icmp .eq 32, 3) := by decide +kernel
theorem dX4_mayBeSold_20 : decode cX4_mayBeSold 20 = .ok (.iload_n 3, 1) := by decide +kernel
theorem dX4_mayBeSold_21 : decode cX4_mayBeSold 21 = .ok (.ifCond .eq 11, 3) := by decide +kernel
theorem dX4_mayBeSold_24 : decode cX4_mayBeSold 24 = .ok (.iload_n 3, 1) := by decide +kernel
theorem dX4_mayBeSold_25 : decode cX4_mayBeSold 25 = .ok (.aload_n 0, 1) := by decide +kernel
theorem dX4_mayBeSold_26 : decode cX4_mayBeSold 26 = .ok (.getfield 31, 3) := by decide +kernel
theorem dX4_mayBeSold_29 : decode cX4_mayBeSold 29 = .ok (.if_icmp .le 20, 3) := by decide +kernel
theorem dX4_mayBeSold_32 : decode cX4_mayBeSold 32 = .ok (.aload_n 0, 1) := by decide +kernel
theorem dX4_mayBeSold_33 : decode cX4_mayBeSold 33 = .ok (.getfield 18, 3) := by decide +kernel
theorem dX4_mayBeSold_36 : decode cX4_mayBeSold 36 = .ok (.iload_n 1, 1) := by decide +kernel
theorem dX4_mayBeSold_37 : decode cX4_mayBeSold 37 = .ok (.iaload, 1) := by decide +kernel
theorem dX4_mayBeSold_38 : decode cX4_mayBeSold 38 = .ok (.aload_n 0, 1) := by decide +kernel
theorem dX4_mayBeSold_39 : decode cX4_mayBeSold 39 = .ok (.getfield 31, 3) := by decide +kernel
theorem dX4_mayBeSold_42 : decode cX4_mayBeSold 42 = .ok (.if_icmp .eq 7, 3) := by decide +kernel
theorem dX4_mayBeSold_45 : decode cX4_mayBeSold 45 = .ok (.iconst 1, 1) := by decide +kernel
theorem dX4_mayBeSold_46 : decode cX4_mayBeSold 46 = .ok (.goto 4, 3) := by decide +kernel
theorem dX4_mayBeSold_49 : decode cX4_mayBeSold 49 = .ok (.iconst 0, 1) := by decide +kernel
theorem dX4_mayBeSold_50 : decode cX4_mayBeSold 50 = .ok (.ireturn, 1) := by decide +kernel
set_option maxRecDepth 20000 in
theorem ggX4_addSale_X4_mayBeSold : GoodIn wsX4_addSale wsX4_mayBeSold := goodIn_r _ [12, 3, 4, 7, 13, 14, 15, 16, 17, 18, 19] (by decide +kernel) (by decide +kernel)
set_option maxRecDepth 20000 in
theorem gX4_addSale_X4_mayBeSold : GoodIn wsX4_addSale (wsV RX4 40 RX4 yX4_mayBeSold wsX4_mayBeSold) := goodIn_app (goodIn_of _ (by decide +kernel)) ggX4_addSale_X4_mayBeSold
theorem dX4_addSale_0 : decode cX4_addSale 0 = .ok (.aload_n 0, 1) := by decide +kernel
theorem dX4_addSale_1 : decode cX4_addSale 1 = .ok (.iload_n 1, 1) := by decide +kernel
theorem dX4_addSale_2 : decode cX4_addSale 2 = .ok (.iload_n 2, 1) := by decide +kernel
theorem dX4_addSale_3 : decode cX4_addSale 3 = .ok (.iload 4, 2) := by decide +kernel
theorem dX4_addSale_5 : decode cX4_addSale 5 = .ok (.invokevirtual 40, 3) := by decide +kernel
theorem dX4_addSale_8 : decode cX4_addSale 8 = .ok (.ifCond .ne 6, 3) := by decide +kernel
theorem dX4_addSale_11 : decode cX4_addSale 11 = .ok (.bipush (-3), 2) := by decide +kernel
theorem dX4_addSale_13 : decode cX4_addSale 13 = .ok (.ireturn, 1) := by decide +kernel
theorem dX4_addSale_14 : decode cX4_addSale 14 = .ok (.aload_n 0, 1) := by decide +kernel
theorem dX4_addSale_15 : decode cX4_addSale 15 = .ok (.getfield 27, 3) := by decide +kernel
theorem dX4_addSale_18 : decode cX4_addSale 18 = .ok (.bipush 80, 2) := by decide +kernel
theorem dX4_addSale_20 : decode cX4_addSale 20 = .ok (.if_icmp .lt 6, 3) := by decide +kernel
theorem dX4_addSale_23 : decode cX4_addSale 23 = .ok (.bipush (-4), 2) := by decide +kernel
theorem dX4_addSale_25 : decode cX4_addSale 25 = .ok (.ireturn, 1) := by decide +kernel
theorem dX4_addSale_26 : decode cX4_addSale 26 = .ok (.aload_n 0, 1) := by decide +kernel
theorem dX4_addSale_27 : decode cX4_addSale 27 = .ok (.getfield 27, 3) := by decide +kernel
theorem dX4_addSale_30 : decode cX4_addSale 30 = .ok (.bipush 7, 2) := by decide +kernel
theorem dX4_addSale_32 : decode cX4_addSale 32 = .ok (.imul, 1) := by decide +kernel
theorem dX4_addSale_33 : decode cX4_addSale 33 = .ok (.istore 5, 2) := by decide +kernel
theorem dX4_addSale_35 : decode cX4_addSale 35 = .ok (.aload_n 0, 1) := by decide +kernel
theorem dX4_addSale_36 : decode cX4_addSale 36 = .ok (.getfield 21, 3) := by decide +kernel
theorem dX4_addSale_39 : decode cX4_addSale 39 = .ok (.iload 5, 2) := by decide +kernel
theorem dX4_addSale_41 : decode cX4_addSale 41 = .ok (.iconst 0, 1) := by decide +kernel
theorem dX4_addSale_42 : decode cX4_addSale 42 = .ok (.iadd, 1) := by decide +kernel
theorem dX4_addSale_43 : decode cX4_addSale 43 = .ok (.iload_n 1, 1) := by decide +kernel
theorem dX4_addSale_44 : decode cX4_addSale 44 = .ok (.iastore, 1) := by decide +kernel
theorem dX4_addSale_45 : decode cX4_addSale 45 = .ok (.aload_n 0, 1) := by decide +kernel
theorem dX4_addSale_46 : decode cX4_addSale 46 = .ok (.getfield 21, 3) := by decide +kernel
theorem dX4_addSale_49 : decode cX4_addSale 49 = .ok (.iload 5, 2) := by decide +kernel
theorem dX4_addSale_51 : decode cX4_addSale 51 = .ok (.iconst 1, 1) := by decide +kernel
theorem dX4_addSale_52 : decode cX4_addSale 52 = .ok (.iadd, 1) := by decide +kernel
theorem dX4_addSale_53 : decode cX4_addSale 53 = .ok (.aload_n 0, 1) := by decide +kernel
theorem dX4_addSale_54 : decode cX4_addSale 54 = .ok (.getfield 9, 3) := by decide +kernel
theorem dX4_addSale_57 : decode cX4_addSale 57 = .ok (.iload_n 1, 1) := by decide +kernel
theorem dX4_addSale_58 : decode cX4_addSale 58 = .ok (.iaload, 1) := by decide +kernel
theorem dX4_addSale_59 : decode cX4_addSale 59 = .ok (.iastore, 1) := by decide +kernel
theorem dX4_addSale_60 : decode cX4_addSale 60 = .ok (.aload_n 0, 1) := by decide +kernel
theorem dX4_addSale_61 : decode cX4_addSale 61 = .ok (.getfield 21, 3) := by decide +kernel
theorem dX4_addSale_64 : decode cX4_addSale 64 = .ok (.iload 5, 2) := by decide +kernel
theorem dX4_addSale_66 : decode cX4_addSale 66 = .ok (.iconst 2, 1) := by decide +kernel
theorem dX4_addSale_67 : decode cX4_addSale 67 = .ok (.iadd, 1) := by decide +kernel
theorem dX4_addSale_68 : decode cX4_addSale 68 = .ok (.iload_n 2, 1) := by decide +kernel
theorem dX4_addSale_69 : decode cX4_addSale 69 = .ok (.iastore, 1) := by decide +kernel
theorem dX4_addSale_70 : decode cX4_addSale 70 = .ok (.aload_n 0, 1) := by decide +kernel
theorem dX4_addSale_71 : decode cX4_addSale 71 = .ok (.getfield 21, 3) := by decide +kernel
theorem dX4_addSale_74 : decode cX4_addSale 74 = .ok (.iload 5, 2) := by decide +kernel
theorem dX4_addSale_76 : decode cX4_addSale 76 = .ok (.iconst 3, 1) := by decide +kernel
theorem dX4_addSale_77 : decode cX4_addSale 77 = .ok (.iadd, 1) := by decide +kernel
theorem dX4_addSale_78 : decode cX4_addSale 78 = .ok (.iload_n 3, 1) := by decide +kernel
theorem dX4_addSale_79 : decode cX4_addSale 79 = .ok (.iastore, 1) := by decide +kernel
theorem dX4_addSale_80 : decode cX4_addSale 80 = .ok (.aload_n 0, 1) := by decide +kernel
theorem dX4_addSale_81 : decode cX4_addSale 81 = .ok (.getfield 21, 3) := by decide +kernel
theorem dX4_addSale_84 : decode cX4_addSale 84 = .ok (.iload 5, 2) := by decide +kernel
theorem dX4_addSale_86 : decode cX4_addSale 86 = .ok (.iconst 4, 1) := by decide +kernel
theorem dX4_addSale_87 : decode cX4_addSale 87 = .ok (.iadd, 1) := by decide +kernel
theorem dX4_addSale_88 : decode cX4_addSale 88 = .ok (.aload_n 0, 1) := by decide +kernel
theorem dX4_addSale_89 : decode cX4_addSale 89 = .ok (.getfield 31, 3) := by decide +kernel
theorem dX4_addSale_92 : decode cX4_addSale 92 = .ok (.iastore, 1) := by decide +kernel
theorem dX4_addSale_93 : decode cX4_addSale 93 = .ok (.aload_n 0, 1) := by decide +kernel
theorem dX4_addSale_94 : decode cX4_addSale 94 = .ok (.getfield 21, 3) := by decide +kernel
theorem dX4_addSale_97 : decode cX4_addSale 97 = .ok (.iload 5, 2) := by decide +kernel
theorem dX4_addSale_99 : decode cX4_addSale 99 = .ok (.iconst 5, 1) := by decide +kernel
theorem dX4_addSale_100 : decode cX4_addSale 100 = .ok (.iadd, 1) := by decide +kernel
theorem dX4_addSale_101 : decode cX4_addSale 101 = .ok (.iload 4, 2) := by decide +kernel
theorem dX4_addSale_103 : decode cX4_addSale 103 = .ok (.iastore, 1) := by decide +kernel
theorem dX4_addSale_104 : decode cX4_addSale 104 = .ok (.aload_n 0, 1) := by decide +kernel
theorem dX4_addSale_105 : decode cX4_addSale 105 = .ok (.getfield 21, 3) := by decide +kernel
theorem dX4_addSale_108 : decode cX4_addSale 108 = .ok (.iload 5, 2) := by decide +kernel
theorem dX4_addSale_110 : decode cX4_addSale 110 = .ok (.bipush 6, 2) := by decide +kernel
theorem dX4_addSale_112 : decode cX4_addSale 112 = .ok (.iadd, 1) := by decide +kernel
theorem dX4_addSale_113 : decode cX4_addSale 113 = .ok (.iconst 1, 1) := by decide +kernel
theorem dX4_addSale_114 : decode cX4_addSale 114 = .ok (.iastore, 1) := by decide +kernel
theorem dX4_addSale_115 : decode cX4_addSale 115 = .ok (.aload_n 0, 1) := by decide +kernel
theorem dX4_addSale_116 : decode cX4_addSale 116 = .ok (.getfield 24, 3) := by decide +kernel
theorem dX4_addSale_119 : decode cX4_addSale 119 = .ok (.aload_n 0, 1) := by decide +kernel
theorem dX4_addSale_120 : decode cX4_addSale 120 = .ok (.getfield 27, 3) := by decide +kernel
theorem dX4_addSale_123 : decode cX4_addSale 123 = .ok (.aload_n 0, 1) := by decide +kernel
theorem dX4_addSale_124 : decode cX4_addSale 124 = .ok (.getfield 15, 3) := by decide +kernel
theorem dX4_addSale_127 : decode cX4_addSale 127 = .ok (.iload_n 1, 1) := by decide +kernel
theorem dX4_addSale_128 : decode cX4_addSale 128 = .ok (.iaload, 1) := by decide +kernel
theorem dX4_addSale_129 : decode cX4_addSale 129 = .ok (.iastore, 1) := by decide +kernel
theorem dX4_addSale_130 : decode cX4_addSale 130 = .ok (.aload_n 0, 1) := by decide +kernel
theorem dX4_addSale_131 : decode cX4_addSale 131 = .ok (.getfield 15, 3) := by decide +kernel
theorem dX4_addSale_134 : decode cX4_addSale 134 = .ok (.iload_n 1, 1) := by decide +kernel
theorem dX4_addSale_135 : decode cX4_addSale 135 = .ok (.aload_n 0, 1) := by decide +kernel
theorem dX4_addSale_136 : decode cX4_addSale 136 = .ok (.getfield 27, 3) := by decide +kernel
theorem dX4_addSale_139 : decode cX4_addSale 139 = .ok (.iastore, 1) := by decide +kernel
theorem dX4_addSale_140 : decode cX4_addSale 140 = .ok (.aload_n 0, 1) := by decide +kernel
theorem dX4_addSale_141 : decode cX4_addSale 141 = .ok (.getfield 18, 3) := by decide +kernel
theorem dX4_addSale_144 : decode cX4_addSale 144 = .ok (.iload_n 1, 1) := by decide +kernel
theorem dX4_addSale_145 : decode cX4_addSale 145 = .ok (.aload_n 0, 1) := by decide +kernel
theorem dX4_addSale_146 : decode cX4_addSale 146 = .ok (.getfield 31, 3) := by decide +kernel
theorem dX4_addSale_149 : decode cX4_addSale 149 = .ok (.iastore, 1) := by decide +kernel
theorem dX4_addSale_150 : decode cX4_addSale 150 = .ok (.aload_n 0, 1) := by decide +kernel
theorem dX4_addSale_151 : decode cX4_addSale 151 = .ok (.getfield 9, 3) := by decide +kernel
theorem dX4_addSale_154 : decode cX4_addSale 154 = .ok (.iload_n 1, 1) := by decide +kernel
theorem dX4_addSale_155 : decode cX4_addSale 155 = .ok (.iload_n 2, 1) := by decide +kernel
theorem dX4_addSale_156 : decode cX4_addSale 156 = .ok (.iastore, 1) := by decide +kernel
theorem dX4_addSale_157 : decode cX4_addSale 157 = .ok (.aload_n 0, 1) := by decide +kernel
theorem dX4_addSale_158 : decode cX4_addSale 158 = .ok (.dup, 1) := by decide +kernel
theorem dX4_addSale_159 : decode cX4_addSale 159 = .ok (.getfield 27, 3) := by decide +kernel
theorem dX4_addSale_162 : decode cX4_addSale 162 = .ok (.iconst 1, 1) := by decide +kernel
theorem dX4_addSale_163 : decode cX4_addSale 163 = .ok (.iadd, 1) := by decide +kernel
theorem dX4_addSale_164 : decode cX4_addSale 164 = .ok (.putfield 27, 3) := by decide +kernel
theorem dX4_addSale_167 : decode cX4_addSale 167 = .ok (.aload_n 0, 1) := by decide +kernel
theorem dX4_addSale_168 : decode cX4_addSale 168 = .ok (.getfield 27, 3) := by decide +kernel
theorem dX4_addSale_171 : decode cX4_addSale 171 = .ok (.iconst 1, 1) := by decide +kernel
theorem dX4_addSale_172 : decode cX4_addSale 172 = .ok (.isub, 1) := by decide +kernel
theorem dX4_addSale_173 : decode cX4_addSale 173 = .ok (.ireturn, 1) := by decide +kernel
set_option maxRecDepth 20000 in
theorem ggX4_giveBack_X4_field : GoodIn wsX4_giveBack wsX4_field := goodIn_r _ [10, 4, 11, 12, 13, 14, 15, 16, 17] (by decide +kernel) (by decide +kernel)
set_option maxRecDepth 20000 in
theorem gX4_giveBack_X4_field : GoodIn wsX4_giveBack (wsV RX4 44 RX4 yX4_field wsX4_field) := goodIn_app (goodIn_of _ (by decide +kernel)) ggX4_giveBack_X4_field
theorem dX4_giveBack_0 : decode cX4_giveBack 0 = .ok (.aload_n 0, 1) := by decide +kernel
theorem dX4_giveBack_1 : decode cX4_giveBack 1 = .ok (.getfield 15, 3) := by decide +kernel
theorem dX4_giveBack_4 : decode cX4_giveBack 4 = .ok (.iload_n 1, 1) := by decide +kernel
theorem dX4_giveBack_5 : decode cX4_giveBack 5 = .ok (.iaload, 1) := by decide +kernel
theorem dX4_giveBack_6 : decode cX4_giveBack 6 = .ok (.istore_n 2, 1) := by decide +kernel
theorem dX4_giveBack_7 : decode cX4_giveBack 7 = .ok (.iload_n 2, 1) := by decide +kernel
theorem dX4_giveBack_8 : decode cX4_giveBack 8 = .ok (.iconst (-1), 1) := by decide +kernel
theorem dX4_giveBack_9 : decode cX4_giveBack 9 = .ok (.if_icmp .eq 31, 3) := by decide +kernel
theorem dX4_giveBack_12 : decode cX4_giveBack 12 = .ok (.aload_n 0, 1) := by decide +kernel
theorem dX4_giveBack_13 : decode cX4_giveBack 13 = .ok (.iload_n 2, 1) := by decide +kernel
theorem dX4_giveBack_14 : decode cX4_giveBack 14 = .ok (.iconst 2, 1) := by decide +kernel
theorem dX4_giveBack_15 : decode cX4_giveBack 15 = .ok (.invokevirtual 44, 3) := by decide +kernel
theorem dX4_giveBack_18 : decode cX4_giveBack 18 = .ok (.aload_n 0, 1) := by decide +kernel
theorem dX4_giveBack_19 : decode cX4_giveBack 19 = .ok (.getfield 9, 3) := by decide +kernel
theorem dX4_giveBack_22 : decode cX4_giveBack 22 = .ok (.iload_n 1, 1) := by decide +kernel
theorem dX4_giveBack_23 : decode cX4_giveBack 23 = .ok (.iaload, 1) := by decide +kernel
theorem dX4_giveBack_24 : decode cX4_giveBack 24 = .ok (.if_icmp .ne 16, 3) := by decide +kernel
theorem dX4_giveBack_27 : decode cX4_giveBack 27 = .ok (.aload_n 0, 1) := by decide +kernel
theorem dX4_giveBack_28 : decode cX4_giveBack 28 = .ok (.iload_n 2, 1) := by decide +kernel
theorem dX4_giveBack_29 : decode cX4_giveBack 29 = .ok (.iconst 5, 1) := by decide +kernel
theorem dX4_giveBack_30 : decode cX4_giveBack 30 = .ok (.invokevirtual 44, 3) := by decide +kernel
theorem dX4_giveBack_33 : decode cX4_giveBack 33 = .ok (.aload_n 0, 1) := by decide +kernel
theorem dX4_giveBack_34 : decode cX4_giveBack 34 = .ok (.getfield 31, 3) := by decide +kernel
theorem dX4_giveBack_37 : decode cX4_giveBack 37 = .ok (.if_icmp .gt 6, 3) := by decide +kernel
theorem dX4_giveBack_40 : decode cX4_giveBack 40 = .ok (.bipush (-3), 2) := by decide +kernel
theorem dX4_giveBack_42 : decode cX4_giveBack 42 = .ok (.ireturn, 1) := by decide +kernel
theorem dX4_giveBack_43 : decode cX4_giveBack 43 = .ok (.aload_n 0, 1) := by decide +kernel
theorem dX4_giveBack_44 : decode cX4_giveBack 44 = .ok (.getfield 21, 3) := by decide +kernel
theorem dX4_giveBack_47 : decode cX4_giveBack 47 = .ok (.iload_n 2, 1) := by decide +kernel
theorem dX4_giveBack_48 : decode cX4_giveBack 48 = .ok (.bipush 7, 2) := by decide +kernel
theorem dX4_giveBack_50 : decode cX4_giveBack 50 = .ok (.imul, 1) := by decide +kernel
theorem dX4_giveBack_51 : decode cX4_giveBack 51 = .ok (.bipush 6, 2) := by decide +kernel
theorem dX4_giveBack_53 : decode cX4_giveBack 53 = .ok (.iadd, 1) := by decide +kernel
theorem dX4_giveBack_54 : decode cX4_giveBack 54 = .ok (.iconst 0, 1) := by decide +kernel
theorem dX4_giveBack_55 : decode cX4_giveBack 55 = .ok (.iastore, 1) := by decide +kernel
theorem dX4_giveBack_56 : decode cX4_giveBack 56 = .ok (.aload_n 0, 1) := by decide +kernel
theorem dX4_giveBack_57 : decode cX4_giveBack 57 = .ok (.getfield 15, 3) := by decide +kernel
theorem dX4_giveBack_60 : decode cX4_giveBack 60 = .ok (.iload_n 1, 1) := by decide +kernel
theorem dX4_giveBack_61 : decode cX4_giveBack 61 = .ok (.aload_n 0, 1) := by decide +kernel
theorem dX4_giveBack_62 : decode cX4_giveBack 62 = .ok (.getfield 24, 3) := by decide +kernel
theorem dX4_giveBack_65 : decode cX4_giveBack 65 = .ok (.iload_n 2, 1) := by decide +kernel
theorem dX4_giveBack_66 : decode cX4_giveBack 66 = .ok (.iaload, 1) := by decide +kernel
theorem dX4_giveBack_67 : decode cX4_giveBack 67 = .ok (.iastore, 1) := by decide +kernel
theorem dX4_giveBack_68 : decode cX4_giveBack 68 = .ok (.aload_n 0, 1) := by decide +kernel
theorem dX4_giveBack_69 : decode cX4_giveBack 69 = .ok (.getfield 9, 3) := by decide +kernel
theorem dX4_giveBack_72 : decode cX4_giveBack 72 = .ok (.iload_n 1, 1) := by decide +kernel
theorem dX4_giveBack_73 : decode cX4_giveBack 73 = .ok (.aload_n 0, 1) := by decide +kernel
theorem dX4_giveBack_74 : decode cX4_giveBack 74 = .ok (.iload_n 2, 1) := by decide +kernel
theorem dX4_giveBack_75 : decode cX4_giveBack 75 = .ok (.iconst 1, 1) := by decide +kernel
theorem dX4_giveBack_76 : decode cX4_giveBack 76 = .ok (.invokevirtual 44, 3) := by decide +kernel
theorem dX4_giveBack_79 : decode cX4_giveBack 79 = .ok (.iastore, 1) := by decide +kernel
theorem dX4_giveBack_80 : decode cX4_giveBack 80 = .ok (.aload_n 0, 1) := by decide +kernel
theorem dX4_giveBack_81 : decode cX4_giveBack 81 = .ok (.getfield 9, 3) := by decide +kernel
theorem dX4_giveBack_84 : decode cX4_giveBack 84 = .ok (.iload_n 1, 1) := by decide +kernel
theorem dX4_giveBack_85 : decode cX4_giveBack 85 = .ok (.iaload, 1) := by decide +kernel
theorem dX4_giveBack_86 : decode cX4_giveBack 86 = .ok (.ireturn, 1) := by decide +kernel
theorem dX4_saleCount_0 : decode cX4_saleCount 0 = .ok (.aload_n 0, 1) := by decide +kernel
theorem dX4_saleCount_1 : decode cX4_saleCount 1 = .ok (.getfield 27, 3) := by decide +kernel
theorem dX4_saleCount_4 : decode cX4_saleCount 4 = .ok (.ireturn, 1) := by decide +kernel
theorem dX4_field_0 : decode cX4_field 0 = .ok (.aload_n 0, 1) := by decide +kernel
theorem dX4_field_1 : decode cX4_field 1 = .ok (.getfield 21, 3) := by decide +kernel
theorem dX4_field_4 : decode cX4_field 4 = .ok (.iload_n 1, 1) := by decide +kernel
theorem dX4_field_5 : decode cX4_field 5 = .ok (.bipush 7, 2) := by decide +kernel
theorem dX4_field_7 : decode cX4_field 7 = .ok (.imul, 1) := by decide +kernel
theorem dX4_field_8 : decode cX4_field 8 = .ok (.iload_n 2, 1) := by decide +kernel
theorem dX4_field_9 : decode cX4_field 9 = .ok (.iadd, 1) := by decide +kernel
theorem dX4_field_10 : decode cX4_field 10 = .ok (.iaload, 1) := by decide +kernel
theorem dX4_field_11 : decode cX4_field 11 = .ok (.ireturn, 1) := by decide +kernel
set_option maxRecDepth 20000 in
theorem ggX4_stands_X4_field : GoodIn wsX4_stands wsX4_field := goodIn_r _ [5, 6, 7, 8, 9, 10, 11, 12, 13] (by decide +kernel) (by decide +kernel)
set_option maxRecDepth 20000 in
theorem gX4_stands_X4_field : GoodIn wsX4_stands (wsV RX4 44 RX4 yX4_field wsX4_field) := goodIn_app (goodIn_of _ (by decide +kernel)) ggX4_stands_X4_field
theorem dX4_stands_0 : decode cX4_stands 0 = .ok (.aload_n 0, 1) := by decide +kernel
theorem dX4_stands_1 : decode cX4_stands 1 = .ok (.iload_n 1, 1) := by decide +kernel
theorem dX4_stands_2 : decode cX4_stands 2 = .ok (.bipush 6, 2) := by decide +kernel
theorem dX4_stands_4 : decode cX4_stands 4 = .ok (.invokevirtual 44, 3) := by decide +kernel
theorem dX4_stands_7 : decode cX4_stands 7 = .ok (.iconst 1, 1) := by decide +kernel
theorem dX4_stands_8 : decode cX4_stands 8 = .ok (.if_icmp .ne 7, 3) := by decide +kernel
theorem dX4_stands_11 : decode cX4_stands 11 = .ok (.iconst 1, 1) := by decide +kernel
theorem dX4_stands_12 : decode cX4_stands 12 = .ok (.goto 4, 3) := by decide +kernel
theorem dX4_stands_15 : decode cX4_stands 15 = .ok (.iconst 0, 1) := by decide +kernel
theorem dX4_stands_16 : decode cX4_stands 16 = .ok (.ireturn, 1) := by decide +kernel
set_option maxRecDepth 20000 in
theorem ggX4_standingCount_X4_field : GoodIn wsX4_standingCount wsX4_field := goodIn_r _ [6, 7, 8, 9, 10, 11, 12, 13, 14] (by decide +kernel) (by decide +kernel)
set_option maxRecDepth 20000 in
theorem gX4_standingCount_X4_field : GoodIn wsX4_standingCount (wsV RX4 44 RX4 yX4_field wsX4_field) := goodIn_app (goodIn_of _ (by decide +kernel)) ggX4_standingCount_X4_field
theorem dX4_standingCount_0 : decode cX4_standingCount 0 = .ok (.iconst 0, 1) := by decide +kernel
theorem dX4_standingCount_1 : decode cX4_standingCount 1 = .ok (.istore_n 1, 1) := by decide +kernel
theorem dX4_standingCount_2 : decode cX4_standingCount 2 = .ok (.iconst 0, 1) := by decide +kernel
theorem dX4_standingCount_3 : decode cX4_standingCount 3 = .ok (.istore_n 2, 1) := by decide +kernel
theorem dX4_standingCount_4 : decode cX4_standingCount 4 = .ok (.iload_n 2, 1) := by decide +kernel
theorem dX4_standingCount_5 : decode cX4_standingCount 5 = .ok (.aload_n 0, 1) := by decide +kernel
theorem dX4_standingCount_6 : decode cX4_standingCount 6 = .ok (.getfield 27, 3) := by decide +kernel
theorem dX4_standingCount_9 : decode cX4_standingCount 9 = .ok (.if_icmp .ge 19, 3) := by decide +kernel
theorem dX4_standingCount_12 : decode cX4_standingCount 12 = .ok (.iload_n 1, 1) := by decide +kernel
theorem dX4_standingCount_13 : decode cX4_standingCount 13 = .ok (.aload_n 0, 1) := by decide +kernel
theorem dX4_standingCount_14 : decode cX4_standingCount 14 = .ok (.iload_n 2, 1) := by decide +kernel
theorem dX4_standingCount_15 : decode cX4_standingCount 15 = .ok (.bipush 6, 2) := by decide +kernel
theorem dX4_standingCount_17 : decode cX4_standingCount 17 = .ok (.invokevirtual 44, 3) := by decide +kernel
theorem dX4_standingCount_20 : decode cX4_standingCount 20 = .ok (.iadd, 1) := by decide +kernel
theorem dX4_standingCount_21 : decode cX4_standingCount 21 = .ok (.istore_n 1, 1) := by decide +kernel
theorem dX4_standingCount_22 : decode cX4_standingCount 22 = .ok (.iinc 2 1, 3) := by decide +kernel
theorem dX4_standingCount_25 : decode cX4_standingCount 25 = .ok (.goto (-21), 3) := by decide +kernel
theorem dX4_standingCount_28 : decode cX4_standingCount 28 = .ok (.iload_n 1, 1) := by decide +kernel
theorem dX4_standingCount_29 : decode cX4_standingCount 29 = .ok (.ireturn, 1) := by decide +kernel
set_option maxRecDepth 20000 in
theorem ggX4_gainOf_X4_stands : GoodIn wsX4_gainOf wsX4_stands := goodIn_r _ [6, 7, 8, 9, 5, 10, 11, 12, 13, 14, 15, 16, 17, 18] (by decide +kernel) (by decide +kernel)
set_option maxRecDepth 20000 in
theorem gX4_gainOf_X4_stands : GoodIn wsX4_gainOf (wsV RX4 48 RX4 yX4_stands wsX4_stands) := goodIn_app (goodIn_of _ (by decide +kernel)) ggX4_gainOf_X4_stands
set_option maxRecDepth 20000 in
theorem ggX4_gainOf_X4_field : GoodIn wsX4_gainOf wsX4_field := goodIn_r _ [10, 11, 12, 13, 14, 15, 16, 17, 18] (by decide +kernel) (by decide +kernel)
set_option maxRecDepth 20000 in
theorem gX4_gainOf_X4_field : GoodIn wsX4_gainOf (wsV RX4 44 RX4 yX4_field wsX4_field) := goodIn_app (goodIn_of _ (by decide +kernel)) ggX4_gainOf_X4_field
theorem dX4_gainOf_0 : decode cX4_gainOf 0 = .ok (.iconst 0, 1) := by decide +kernel
theorem dX4_gainOf_1 : decode cX4_gainOf 1 = .ok (.istore_n 2, 1) := by decide +kernel
theorem dX4_gainOf_2 : decode cX4_gainOf 2 = .ok (.iconst 0, 1) := by decide +kernel
theorem dX4_gainOf_3 : decode cX4_gainOf 3 = .ok (.istore_n 3, 1) := by decide +kernel
theorem dX4_gainOf_4 : decode cX4_gainOf 4 = .ok (.iload_n 3, 1) := by decide +kernel
theorem dX4_gainOf_5 : decode cX4_gainOf 5 = .ok (.aload_n 0, 1) := by decide +kernel
theorem dX4_gainOf_6 : decode cX4_gainOf 6 = .ok (.getfield 27, 3) := by decide +kernel
theorem dX4_gainOf_9 : decode cX4_gainOf 9 = .ok (.if_icmp .ge 63, 3) := by decide +kernel
theorem dX4_gainOf_12 : decode cX4_gainOf 12 = .ok (.aload_n 0, 1) := by decide +kernel
theorem dX4_gainOf_13 : decode cX4_gainOf 13 = .ok (.iload_n 3, 1) := by decide +kernel
theorem dX4_gainOf_14 : decode cX4_gainOf 14 = .ok (.invokevirtual 48, 3) := by decide +kernel
theorem dX4_gainOf_17 : decode cX4_gainOf 17 = .ok (.ifCond .eq 22, 3) := by decide +kernel
theorem dX4_gainOf_20 : decode cX4_gainOf 20 = .ok (.aload_n 0, 1) := by decide +kernel
theorem dX4_gainOf_21 : decode cX4_gainOf 21 = .ok (.iload_n 3, 1) := by decide +kernel
theorem dX4_gainOf_22 : decode cX4_gainOf 22 = .ok (.iconst 1, 1) := by decide +kernel
theorem dX4_gainOf_23 : decode cX4_gainOf 23 = .ok (.invokevirtual 44, 3) := by decide +kernel
theorem dX4_gainOf_26 : decode cX4_gainOf 26 = .ok (.iload_n 1, 1) := by decide +kernel
theorem dX4_gainOf_27 : decode cX4_gainOf 27 = .ok (.if_icmp .ne 12, 3) := by decide +kernel
theorem dX4_gainOf_30 : decode cX4_gainOf 30 = .ok (.iload_n 2, 1) := by decide +kernel
theorem dX4_gainOf_31 : decode cX4_gainOf 31 = .ok (.aload_n 0, 1) := by decide +kernel
theorem dX4_gainOf_32 : decode cX4_gainOf 32 = .ok (.iload_n 3, 1) := by decide +kernel
theorem dX4_gainOf_33 : decode cX4_gainOf 33 = .ok (.iconst 3, 1) := by decide +kernel
theorem dX4_gainOf_34 : decode cX4_gainOf 34 = .ok (.invokevirtual 44, 3) := by decide +kernel
theorem dX4_gainOf_37 : decode cX4_gainOf 37 = .ok (.iadd, 1) := by decide +kernel
theorem dX4_gainOf_38 : decode cX4_gainOf 38 = .ok (.istore_n 2, 1) := by decide +kernel
theorem dX4_gainOf_39 : decode cX4_gainOf 39 = .ok (.aload_n 0, 1) := by decide +kernel
theorem dX4_gainOf_40 : decode cX4_gainOf 40 = .ok (.iload_n 3, 1) := by decide +kernel
theorem dX4_gainOf_41 : decode cX4_gainOf 41 = .ok (.invokevirtual 48, 3) := by decide +kernel
theorem dX4_gainOf_44 : decode cX4_gainOf 44 = .ok (.ifCond .eq 22, 3) := by decide +kernel
theorem dX4_gainOf_47 : decode cX4_gainOf 47 = .ok (.aload_n 0, 1) := by decide +kernel
theorem dX4_gainOf_48 : decode cX4_gainOf 48 = .ok (.iload_n 3, 1) := by decide +kernel
theorem dX4_gainOf_49 : decode cX4_gainOf 49 = .ok (.iconst 2, 1) := by decide +kernel
theorem dX4_gainOf_50 : decode cX4_gainOf 50 = .ok (.invokevirtual 44, 3) := by decide +kernel
theorem dX4_gainOf_53 : decode cX4_gainOf 53 = .ok (.iload_n 1, 1) := by decide +kernel
theorem dX4_gainOf_54 : decode cX4_gainOf 54 = .ok (.if_icmp .ne 12, 3) := by decide +kernel
theorem dX4_gainOf_57 : decode cX4_gainOf 57 = .ok (.iload_n 2, 1) := by decide +kernel
theorem dX4_gainOf_58 : decode cX4_gainOf 58 = .ok (.aload_n 0, 1) := by decide +kernel
theorem dX4_gainOf_59 : decode cX4_gainOf 59 = .ok (.iload_n 3, 1) := by decide +kernel
theorem dX4_gainOf_60 : decode cX4_gainOf 60 = .ok (.iconst 3, 1) := by decide +kernel
theorem dX4_gainOf_61 : decode cX4_gainOf 61 = .ok (.invokevirtual 44, 3) := by decide +kernel
theorem dX4_gainOf_64 : decode cX4_gainOf 64 = .ok (.isub, 1) := by decide +kernel
theorem dX4_gainOf_65 : decode cX4_gainOf 65 = .ok (.istore_n 2, 1) := by decide +kernel
theorem dX4_gainOf_66 : decode cX4_gainOf 66 = .ok (.iinc 3 1, 3) := by decide +kernel
theorem dX4_gainOf_69 : decode cX4_gainOf 69 = .ok (.goto (-65), 3) := by decide +kernel
theorem dX4_gainOf_72 : decode cX4_gainOf 72 = .ok (.iload_n 2, 1) := by decide +kernel
theorem dX4_gainOf_73 : decode cX4_gainOf 73 = .ok (.ireturn, 1) := by decide +kernel
set_option maxRecDepth 20000 in
theorem ggX4_riseOf_X4_stands : GoodIn wsX4_riseOf wsX4_stands := goodIn_r _ [6, 7, 8, 9, 5, 10, 11, 12, 13, 14, 15, 16, 17, 18] (by decide +kernel) (by decide +kernel)
set_option maxRecDepth 20000 in
theorem gX4_riseOf_X4_stands : GoodIn wsX4_riseOf (wsV RX4 48 RX4 yX4_stands wsX4_stands) := goodIn_app (goodIn_of _ (by decide +kernel)) ggX4_riseOf_X4_stands
set_option maxRecDepth 20000 in
theorem ggX4_riseOf_X4_field : GoodIn wsX4_riseOf wsX4_field := goodIn_r _ [10, 11, 12, 13, 14, 15, 16, 17, 18] (by decide +kernel) (by decide +kernel)
set_option maxRecDepth 20000 in
theorem gX4_riseOf_X4_field : GoodIn wsX4_riseOf (wsV RX4 44 RX4 yX4_field wsX4_field) := goodIn_app (goodIn_of _ (by decide +kernel)) ggX4_riseOf_X4_field
theorem dX4_riseOf_0 : decode cX4_riseOf 0 = .ok (.iconst (-1), 1) := by decide +kernel
theorem dX4_riseOf_1 : decode cX4_riseOf 1 = .ok (.istore_n 2, 1) := by decide +kernel
theorem dX4_riseOf_2 : decode cX4_riseOf 2 = .ok (.iconst (-1), 1) := by decide +kernel
theorem dX4_riseOf_3 : decode cX4_riseOf 3 = .ok (.istore_n 3, 1) := by decide +kernel
theorem dX4_riseOf_4 : decode cX4_riseOf 4 = .ok (.iconst 0, 1) := by decide +kernel
theorem dX4_riseOf_5 : decode cX4_riseOf 5 = .ok (.istore 4, 2) := by decide +kernel
theorem dX4_riseOf_7 : decode cX4_riseOf 7 = .ok (.iload 4, 2) := by decide +kernel
theorem dX4_riseOf_9 : decode cX4_riseOf 9 = .ok (.aload_n 0, 1) := by decide +kernel
theorem dX4_riseOf_10 : decode cX4_riseOf 10 = .ok (.getfield 27, 3) := by decide +kernel
theorem dX4_riseOf_13 : decode cX4_riseOf 13 = .ok (.if_icmp .ge 44, 3) := by decide +kernel
theorem dX4_riseOf_16 : decode cX4_riseOf 16 = .ok (.aload_n 0, 1) := by decide +kernel
theorem dX4_riseOf_17 : decode cX4_riseOf 17 = .ok (.iload 4, 2) := by decide +kernel
theorem dX4_riseOf_19 : decode cX4_riseOf 19 = .ok (.invokevirtual 48, 3) := by decide +kernel
theorem dX4_riseOf_22 : decode cX4_riseOf 22 = .ok (.ifCond .eq 29, 3) := by decide +kernel
theorem dX4_riseOf_25 : decode cX4_riseOf 25 = .ok (.aload_n 0, 1) := by decide +kernel
theorem dX4_riseOf_26 : decode cX4_riseOf 26 = .ok (.iload 4, 2) := by decide +kernel
theorem dX4_riseOf_28 : decode cX4_riseOf 28 = .ok (.iconst 0, 1) := by decide +kernel
theorem dX4_riseOf_29 : decode cX4_riseOf 29 = .ok (.invokevirtual 44, 3) := by decide +kernel
theorem dX4_riseOf_32 : decode cX4_riseOf 32 = .ok (.iload_n 1, 1) := by decide +kernel
theorem dX4_riseOf_33 : decode cX4_riseOf 33 = .ok (.if_icmp .ne 18, 3) := by decide +kernel
theorem dX4_riseOf_36 : decode cX4_riseOf 36 = .ok (.iload_n 2, 1) := by decide +kernel
theorem dX4_riseOf_37 : decode cX4_riseOf 37 = .ok (.iconst (-1), 1) := by decide +kernel
theorem dX4_riseOf_38 : decode cX4_riseOf 38 = .ok (.if_icmp .ne 8, 3) := by decide +kernel
theorem dX4_riseOf_41 : decode cX4_riseOf 41 = .ok (.iload 4, 2) := by decide +kernel
theorem dX4_riseOf_43 : decode cX4_riseOf 43 = .ok (.goto 4, 3) := by decide +kernel
theorem dX4_riseOf_46 : decode cX4_riseOf 46 = .ok (.iload_n 2, 1) := by decide +kernel
theorem dX4_riseOf_47 : decode cX4_riseOf 47 = .ok (.istore_n 2, 1) := by decide +kernel
theorem dX4_riseOf_48 : decode cX4_riseOf 48 = .ok (.iload 4, 2) := by decide +kernel
theorem dX4_riseOf_50 : decode cX4_riseOf 50 = .ok (.istore_n 3, 1) := by decide +kernel
theorem dX4_riseOf_51 : decode cX4_riseOf 51 = .ok (.iinc 4 1, 3) := by decide +kernel
theorem dX4_riseOf_54 : decode cX4_riseOf 54 = .ok (.goto (-47), 3) := by decide +kernel
theorem dX4_riseOf_57 : decode cX4_riseOf 57 = .ok (.iload_n 2, 1) := by decide +kernel
theorem dX4_riseOf_58 : decode cX4_riseOf 58 = .ok (.iconst (-1), 1) := by decide +kernel
theorem dX4_riseOf_59 : decode cX4_riseOf 59 = .ok (.if_icmp .ne 7, 3) := by decide +kernel
theorem dX4_riseOf_62 : decode cX4_riseOf 62 = .ok (.iconst 0, 1) := by decide +kernel
theorem dX4_riseOf_63 : decode cX4_riseOf 63 = .ok (.goto 16, 3) := by decide +kernel
theorem dX4_riseOf_66 : decode cX4_riseOf 66 = .ok (.aload_n 0, 1) := by decide +kernel
theorem dX4_riseOf_67 : decode cX4_riseOf 67 = .ok (.iload_n 3, 1) := by decide +kernel
theorem dX4_riseOf_68 : decode cX4_riseOf 68 = .ok (.iconst 3, 1) := by decide +kernel
theorem dX4_riseOf_69 : decode cX4_riseOf 69 = .ok (.invokevirtual 44, 3) := by decide +kernel
theorem dX4_riseOf_72 : decode cX4_riseOf 72 = .ok (.aload_n 0, 1) := by decide +kernel
theorem dX4_riseOf_73 : decode cX4_riseOf 73 = .ok (.iload_n 2, 1) := by decide +kernel
theorem dX4_riseOf_74 : decode cX4_riseOf 74 = .ok (.iconst 3, 1) := by decide +kernel
theorem dX4_riseOf_75 : decode cX4_riseOf 75 = .ok (.invokevirtual 44, 3) := by decide +kernel
theorem dX4_riseOf_78 : decode cX4_riseOf 78 = .ok (.isub, 1) := by decide +kernel
theorem dX4_riseOf_79 : decode cX4_riseOf 79 = .ok (.ireturn, 1) := by decide +kernel
set_option maxRecDepth 20000 in
theorem ggX4_mixSales_X5_mix : GoodIn wsX4_mixSales wsX5_mix := goodIn_r _ [5, 6] (by decide +kernel) (by decide +kernel)
set_option maxRecDepth 20000 in
theorem gX4_mixSales_X5_mix_n52 : GoodIn wsX4_mixSales (wsX5_mix) := ggX4_mixSales_X5_mix
theorem dX4_mixSales_0 : decode cX4_mixSales 0 = .ok (.lload_n 1, 1) := by decide +kernel
theorem dX4_mixSales_1 : decode cX4_mixSales 1 = .ok (.lstore_n 3, 1) := by decide +kernel
theorem dX4_mixSales_2 : decode cX4_mixSales 2 = .ok (.iconst 0, 1) := by decide +kernel
theorem dX4_mixSales_3 : decode cX4_mixSales 3 = .ok (.istore 5, 2) := by decide +kernel
theorem dX4_mixSales_5 : decode cX4_mixSales 5 = .ok (.iload 5, 2) := by decide +kernel
theorem dX4_mixSales_7 : decode cX4_mixSales 7 = .ok (.aload_n 0, 1) := by decide +kernel
theorem dX4_mixSales_8 : decode cX4_mixSales 8 = .ok (.getfield 27, 3) := by decide +kernel
theorem dX4_mixSales_11 : decode cX4_mixSales 11 = .ok (.bipush 7, 2) := by decide +kernel
theorem dX4_mixSales_13 : decode cX4_mixSales 13 = .ok (.imul, 1) := by decide +kernel
theorem dX4_mixSales_14 : decode cX4_mixSales 14 = .ok (.if_icmp .ge 21, 3) := by decide +kernel
theorem dX4_mixSales_17 : decode cX4_mixSales 17 = .ok (.lload_n 3, 1) := by decide +kernel
theorem dX4_mixSales_18 : decode cX4_mixSales 18 = .ok (.aload_n 0, 1) := by decide +kernel
theorem dX4_mixSales_19 : decode cX4_mixSales 19 = .ok (.getfield 21, 3) := by decide +kernel
theorem dX4_mixSales_22 : decode cX4_mixSales 22 = .ok (.iload 5, 2) := by decide +kernel
theorem dX4_mixSales_24 : decode cX4_mixSales 24 = .ok (.iaload, 1) := by decide +kernel
theorem dX4_mixSales_25 : decode cX4_mixSales 25 = .ok (.invokestatic 52, 3) := by decide +kernel
theorem dX4_mixSales_28 : decode cX4_mixSales 28 = .ok (.lstore_n 3, 1) := by decide +kernel
theorem dX4_mixSales_29 : decode cX4_mixSales 29 = .ok (.iinc 5 1, 3) := by decide +kernel
theorem dX4_mixSales_32 : decode cX4_mixSales 32 = .ok (.goto (-27), 3) := by decide +kernel
theorem dX4_mixSales_35 : decode cX4_mixSales 35 = .ok (.lload_n 3, 1) := by decide +kernel
theorem dX4_mixSales_36 : decode cX4_mixSales 36 = .ok (.lreturn, 1) := by decide +kernel
set_option maxRecDepth 20000 in
theorem ggX5_init_X2_init : GoodIn wsX5_init wsX2_init := goodIn_r _ [26, 27, 2, 3, 28, 29, 30, 31, 32, 33, 34, 35, 36, 37, 70, 71, 72, 73, 74] (by decide +kernel) (by decide +kernel)
set_option maxRecDepth 20000 in
theorem gX5_init_X2_init : GoodIn wsX5_init (wsX2_init) := ggX5_init_X2_init
set_option maxRecDepth 20000 in
theorem ggX5_init_X4_init : GoodIn wsX5_init wsX4_init := goodIn_r _ [40, 41, 2, 3, 28, 42, 43, 44, 45, 46, 47, 48, 49, 35, 36, 37, 80, 81, 82, 83, 84, 85, 86] (by decide +kernel) (by decide +kernel)
set_option maxRecDepth 20000 in
theorem gX5_init_X4_init : GoodIn wsX5_init (wsX4_init) := ggX5_init_X4_init
set_option maxRecDepth 20000 in
theorem ggX5_init_X0_init : GoodIn wsX5_init wsX0_init := goodIn_r _ [51, 52, 2, 3, 28, 53, 54, 55, 56, 87, 88, 89, 90] (by decide +kernel) (by decide +kernel)
set_option maxRecDepth 20000 in
theorem gX5_init_X0_init_n25 : GoodIn wsX5_init (wsX0_init) := ggX5_init_X0_init
set_option maxRecDepth 20000 in
theorem ggX5_init_X3_init : GoodIn wsX5_init wsX3_init := goodIn_r _ [58, 59, 2, 3, 28, 60, 61, 62, 63, 64, 65, 91, 92, 93, 94, 95, 96] (by decide +kernel) (by decide +kernel)
set_option maxRecDepth 20000 in
theorem gX5_init_X3_init_n32 : GoodIn wsX5_init (wsX3_init) := ggX5_init_X3_init
set_option maxRecDepth 20000 in
theorem ggX5_init_X1_init : GoodIn wsX5_init wsX1_init := goodIn_r _ [67, 68, 2, 3, 28, 69, 97] (by decide +kernel) (by decide +kernel)
set_option maxRecDepth 20000 in
theorem gX5_init_X1_init_n39 : GoodIn wsX5_init (wsX1_init) := ggX5_init_X1_init
theorem dX5_init_0 : decode cX5_init 0 = .ok (.aload_n 0, 1) := by decide +kernel
theorem dX5_init_1 : decode cX5_init 1 = .ok (.invokespecial 3, 3) := by decide +kernel
theorem dX5_init_4 : decode cX5_init 4 = .ok (.aload_n 0, 1) := by decide +kernel
theorem dX5_init_5 : decode cX5_init 5 = .ok (.new 9, 3) := by decide +kernel
theorem dX5_init_8 : decode cX5_init 8 = .ok (.dup, 1) := by decide +kernel
theorem dX5_init_9 : decode cX5_init 9 = .ok (.invokespecial 11, 3) := by decide +kernel
theorem dX5_init_12 : decode cX5_init 12 = .ok (.putfield 12, 3) := by decide +kernel
theorem dX5_init_15 : decode cX5_init 15 = .ok (.aload_n 0, 1) := by decide +kernel
theorem dX5_init_16 : decode cX5_init 16 = .ok (.new 16, 3) := by decide +kernel
theorem dX5_init_19 : decode cX5_init 19 = .ok (.dup, 1) := by decide +kernel
theorem dX5_init_20 : decode cX5_init 20 = .ok (.invokespecial 18, 3) := by decide +kernel
theorem dX5_init_23 : decode cX5_init 23 = .ok (.putfield 19, 3) := by decide +kernel
theorem dX5_init_26 : decode cX5_init 26 = .ok (.aload_n 0, 1) := by decide +kernel
theorem dX5_init_27 : decode cX5_init 27 = .ok (.new 23, 3) := by decide +kernel
theorem dX5_init_30 : decode cX5_init 30 = .ok (.dup, 1) := by decide +kernel
theorem dX5_init_31 : decode cX5_init 31 = .ok (.invokespecial 25, 3) := by decide +kernel
theorem dX5_init_34 : decode cX5_init 34 = .ok (.putfield 26, 3) := by decide +kernel
theorem dX5_init_37 : decode cX5_init 37 = .ok (.aload_n 0, 1) := by decide +kernel
theorem dX5_init_38 : decode cX5_init 38 = .ok (.new 30, 3) := by decide +kernel
theorem dX5_init_41 : decode cX5_init 41 = .ok (.dup, 1) := by decide +kernel
theorem dX5_init_42 : decode cX5_init 42 = .ok (.invokespecial 32, 3) := by decide +kernel
theorem dX5_init_45 : decode cX5_init 45 = .ok (.putfield 33, 3) := by decide +kernel
theorem dX5_init_48 : decode cX5_init 48 = .ok (.aload_n 0, 1) := by decide +kernel
theorem dX5_init_49 : decode cX5_init 49 = .ok (.new 37, 3) := by decide +kernel
theorem dX5_init_52 : decode cX5_init 52 = .ok (.dup, 1) := by decide +kernel
theorem dX5_init_53 : decode cX5_init 53 = .ok (.invokespecial 39, 3) := by decide +kernel
theorem dX5_init_56 : decode cX5_init 56 = .ok (.putfield 40, 3) := by decide +kernel
theorem dX5_init_59 : decode cX5_init 59 = .ok (.return_, 1) := by decide +kernel
set_option maxRecDepth 20000 in
theorem ggX5_work_X5_within : GoodIn wsX5_work wsX5_within := goodIn_r _ [5] (by decide +kernel) (by decide +kernel)
set_option maxRecDepth 20000 in
theorem gX5_work_X5_within : GoodIn wsX5_work (va_wsS RX5 44 yX5_within wsX5_within) := goodIn_app (goodIn_of _ (by decide +kernel)) ggX5_work_X5_within
set_option maxRecDepth 20000 in
theorem ggX5_work_X2_setYears : GoodIn wsX5_work wsX2_setYears := goodIn_r _ [10, 11, 12, 18, 19, 20, 21, 22] (by decide +kernel) (by decide +kernel)
set_option maxRecDepth 20000 in
theorem gX5_work_X2_setYears : GoodIn wsX5_work (wsV RX5 48 RX2 yX2_setYears wsX2_setYears) := goodIn_app (goodIn_of _ (by decide +kernel)) ggX5_work_X2_setYears
theorem dX5_work_0 : decode cX5_work 0 = .ok (.iload_n 1, 1) := by decide +kernel
theorem dX5_work_1 : decode cX5_work 1 = .ok (.iconst 0, 1) := by decide +kernel
theorem dX5_work_2 : decode cX5_work 2 = .ok (.bipush 9, 2) := by decide +kernel
theorem dX5_work_4 : decode cX5_work 4 = .ok (.invokestatic 44, 3) := by decide +kernel
theorem dX5_work_7 : decode cX5_work 7 = .ok (.ifCond .eq 27, 3) := by decide +kernel
theorem dX5_work_10 : decode cX5_work 10 = .ok (.iload_n 2, 1) := by decide +kernel
theorem dX5_work_11 : decode cX5_work 11 = .ok (.sipush 1600, 3) := by decide +kernel
theorem dX5_work_14 : decode cX5_work 14 = .ok (.sipush 1950, 3) := by decide +kernel
theorem dX5_work_17 : decode cX5_work 17 = .ok (.invokestatic 44, 3) := by decide +kernel
theorem dX5_work_20 : decode cX5_work 20 = .ok (.ifCond .eq 14, 3) := by decide +kernel
theorem dX5_work_23 : decode cX5_work 23 = .ok (.iload_n 3, 1) := by decide +kernel
theorem dX5_work_24 : decode cX5_work 24 = .ok (.iload_n 2, 1) := by decide +kernel
theorem dX5_work_25 : decode cX5_work 25 = .ok (.sipush 1950, 3) := by decide +kernel
theorem dX5_work_28 : decode cX5_work 28 = .ok (.invokestatic 44, 3) := by decide +kernel
theorem dX5_work_31 : decode cX5_work 31 = .ok (.ifCond .ne 6, 3) := by decide +kernel
theorem dX5_work_34 : decode cX5_work 34 = .ok (.bipush (-2), 2) := by decide +kernel
theorem dX5_work_36 : decode cX5_work 36 = .ok (.ireturn, 1) := by decide +kernel
theorem dX5_work_37 : decode cX5_work 37 = .ok (.aload_n 0, 1) := by decide +kernel
theorem dX5_work_38 : decode cX5_work 38 = .ok (.getfield 12, 3) := by decide +kernel
theorem dX5_work_41 : decode cX5_work 41 = .ok (.iload_n 1, 1) := by decide +kernel
theorem dX5_work_42 : decode cX5_work 42 = .ok (.iload_n 2, 1) := by decide +kernel
theorem dX5_work_43 : decode cX5_work 43 = .ok (.iload_n 3, 1) := by decide +kernel
theorem dX5_work_44 : decode cX5_work 44 = .ok (.invokevirtual 48, 3) := by decide +kernel
theorem dX5_work_47 : decode cX5_work 47 = .ok (.iconst 1, 1) := by decide +kernel
theorem dX5_work_48 : decode cX5_work 48 = .ok (.ireturn, 1) := by decide +kernel
set_option maxRecDepth 20000 in
theorem ggX5_thing_X5_within : GoodIn wsX5_thing wsX5_within := goodIn_r _ [5] (by decide +kernel) (by decide +kernel)
set_option maxRecDepth 20000 in
theorem gX5_thing_X5_within : GoodIn wsX5_thing (va_wsS RX5 44 yX5_within wsX5_within) := goodIn_app (goodIn_of _ (by decide +kernel)) ggX5_thing_X5_within
set_option maxRecDepth 20000 in
theorem ggX5_thing_X2_addThing : GoodIn wsX5_thing wsX2_addThing := goodIn_r _ [10, 11, 12, 18, 19, 20, 21, 22] (by decide +kernel) (by decide +kernel)
set_option maxRecDepth 20000 in
theorem gX5_thing_X2_addThing : GoodIn wsX5_thing (wsV RX5 52 RX2 yX2_addThing wsX2_addThing) := goodIn_app (goodIn_of _ (by decide +kernel)) ggX5_thing_X2_addThing
theorem dX5_thing_0 : decode cX5_thing 0 = .ok (.iload_n 1, 1) := by decide +kernel
theorem dX5_thing_1 : decode cX5_thing 1 = .ok (.iconst 1, 1) := by decide +kernel
theorem dX5_thing_2 : decode cX5_thing 2 = .ok (.iconst 5, 1) := by decide +kernel
theorem dX5_thing_3 : decode cX5_thing 3 = .ok (.invokestatic 44, 3) := by decide +kernel
theorem dX5_thing_6 : decode cX5_thing 6 = .ok (.ifCond .ne 6, 3) := by decide +kernel
theorem dX5_thing_9 : decode cX5_thing 9 = .ok (.bipush (-2), 2) := by decide +kernel
theorem dX5_thing_11 : decode cX5_thing 11 = .ok (.ireturn, 1) := by decide +kernel
theorem dX5_thing_12 : decode cX5_thing 12 = .ok (.aload_n 0, 1) := by decide +kernel
theorem dX5_thing_13 : decode cX5_thing 13 = .ok (.getfield 12, 3) := by decide +kernel
theorem dX5_thing_16 : decode cX5_thing 16 = .ok (.iload_n 1, 1) := by decide +kernel
theorem dX5_thing_17 : decode cX5_thing 17 = .ok (.invokevirtual 52, 3) := by decide +kernel
theorem dX5_thing_20 : decode cX5_thing 20 = .ok (.ireturn, 1) := by decide +kernel
set_option maxRecDepth 20000 in
theorem ggX5_part_X2_hasPart : GoodIn wsX5_part wsX2_hasPart := goodIn_r _ [6, 7, 8, 9, 10, 5, 11, 12, 13, 14, 15, 31, 32, 33, 34, 35] (by decide +kernel) (by decide +kernel)
set_option maxRecDepth 20000 in
theorem gX5_part_X2_hasPart : GoodIn wsX5_part (wsV RX5 56 RX2 yX2_hasPart wsX2_hasPart) := goodIn_app (goodIn_of _ (by decide +kernel)) ggX5_part_X2_hasPart
set_option maxRecDepth 20000 in
theorem ggX5_part_X5_within : GoodIn wsX5_part wsX5_within := goodIn_r _ [15] (by decide +kernel) (by decide +kernel)
set_option maxRecDepth 20000 in
theorem gX5_part_X5_within : GoodIn wsX5_part (va_wsS RX5 44 yX5_within wsX5_within) := goodIn_app (goodIn_of _ (by decide +kernel)) ggX5_part_X5_within
set_option maxRecDepth 20000 in
theorem ggX5_part_X2_changeWorks : GoodIn wsX5_part wsX2_changeWorks := goodIn_r _ [20, 21, 22, 23, 24, 5, 25, 31, 32, 33, 34, 35] (by decide +kernel) (by decide +kernel)
set_option maxRecDepth 20000 in
theorem gX5_part_X2_changeWorks : GoodIn wsX5_part (wsV RX5 60 RX2 yX2_changeWorks wsX2_changeWorks) := goodIn_app (goodIn_of _ (by decide +kernel)) ggX5_part_X2_changeWorks
theorem dX5_part_0 : decode cX5_part 0 = .ok (.aload_n 0, 1) := by decide +kernel
theorem dX5_part_1 : decode cX5_part 1 = .ok (.getfield 12, 3) := by decide +kernel
theorem dX5_part_4 : decode cX5_part 4 = .ok (.iload_n 1, 1) := by decide +kernel
theorem dX5_part_5 : decode cX5_part 5 = .ok (.iload_n 2, 1) := by decide +kernel
theorem dX5_part_6 : decode cX5_part 6 = .ok (.invokevirtual 56, 3) := by decide +kernel
theorem dX5_part_9 : decode cX5_part 9 = .ok (.ifCond .eq 14, 3) := by decide +kernel
theorem dX5_part_12 : decode cX5_part 12 = .ok (.iload_n 3, 1) := by decide +kernel
theorem dX5_part_13 : decode cX5_part 13 = .ok (.iconst 0, 1) := by decide +kernel
theorem dX5_part_14 : decode cX5_part 14 = .ok (.sipush 1023, 3) := by decide +kernel
theorem dX5_part_17 : decode cX5_part 17 = .ok (.invokestatic 44, 3) := by decide +kernel
theorem dX5_part_20 : decode cX5_part 20 = .ok (.ifCond .ne 6, 3) := by decide +kernel
theorem dX5_part_23 : decode cX5_part 23 = .ok (.bipush (-2), 2) := by decide +kernel
theorem dX5_part_25 : decode cX5_part 25 = .ok (.ireturn, 1) := by decide +kernel
theorem dX5_part_26 : decode cX5_part 26 = .ok (.aload_n 0, 1) := by decide +kernel
theorem dX5_part_27 : decode cX5_part 27 = .ok (.getfield 12, 3) := by decide +kernel
theorem dX5_part_30 : decode cX5_part 30 = .ok (.iload_n 1, 1) := by decide +kernel
theorem dX5_part_31 : decode cX5_part 31 = .ok (.iload_n 2, 1) := by decide +kernel
theorem dX5_part_32 : decode cX5_part 32 = .ok (.iload_n 3, 1) := by decide +kernel
theorem dX5_part_33 : decode cX5_part 33 = .ok (.invokevirtual 60, 3) := by decide +kernel
theorem dX5_part_36 : decode cX5_part 36 = .ok (.ireturn, 1) := by decide +kernel
set_option maxRecDepth 20000 in
theorem ggX5_span_X2_hasPart : GoodIn wsX5_span wsX2_hasPart := goodIn_r _ [6, 7, 8, 9, 10, 5, 11, 12, 13, 14, 15, 40, 41, 42, 43, 44] (by decide +kernel) (by decide +kernel)
set_option maxRecDepth 20000 in
theorem gX5_span_X2_hasPart : GoodIn wsX5_span (wsV RX5 56 RX2 yX2_hasPart wsX2_hasPart) := goodIn_app (goodIn_of _ (by decide +kernel)) ggX5_span_X2_hasPart
set_option maxRecDepth 20000 in
theorem ggX5_span_X5_within : GoodIn wsX5_span wsX5_within := goodIn_r _ [15] (by decide +kernel) (by decide +kernel)
set_option maxRecDepth 20000 in
theorem gX5_span_X5_within : GoodIn wsX5_span (va_wsS RX5 44 yX5_within wsX5_within) := goodIn_app (goodIn_of _ (by decide +kernel)) ggX5_span_X5_within
set_option maxRecDepth 20000 in
theorem ggX5_span_X2_worksOf : GoodIn wsX5_span wsX2_worksOf := goodIn_r _ [20, 21, 40, 41, 42, 43, 44] (by decide +kernel) (by decide +kernel)
set_option maxRecDepth 20000 in
theorem gX5_span_X2_worksOf : GoodIn wsX5_span (wsV RX5 64 RX2 yX2_worksOf wsX2_worksOf) := goodIn_app (goodIn_of _ (by decide +kernel)) ggX5_span_X2_worksOf
set_option maxRecDepth 20000 in
theorem ggX5_span_X2_yearOf : GoodIn wsX5_span wsX2_yearOf := goodIn_r _ [25, 26, 27, 28, 29, 30, 31, 32, 33, 34, 40, 41, 42, 43, 44] (by decide +kernel) (by decide +kernel)
set_option maxRecDepth 20000 in
theorem gX5_span_X2_yearOf : GoodIn wsX5_span (wsV RX5 68 RX2 yX2_yearOf wsX2_yearOf) := goodIn_app (goodIn_of _ (by decide +kernel)) ggX5_span_X2_yearOf
theorem dX5_span_0 : decode cX5_span 0 = .ok (.aload_n 0, 1) := by decide +kernel
theorem dX5_span_1 : decode cX5_span 1 = .ok (.getfield 12, 3) := by decide +kernel
theorem dX5_span_4 : decode cX5_span 4 = .ok (.iload_n 1, 1) := by decide +kernel
theorem dX5_span_5 : decode cX5_span 5 = .ok (.iload_n 2, 1) := by decide +kernel
theorem dX5_span_6 : decode cX5_span 6 = .ok (.invokevirtual 56, 3) := by decide +kernel
theorem dX5_span_9 : decode cX5_span 9 = .ok (.ifCond .eq 12, 3) := by decide +kernel
theorem dX5_span_12 : decode cX5_span 12 = .ok (.iload_n 3, 1) := by decide +kernel
theorem dX5_span_13 : decode cX5_span 13 = .ok (.iconst 0, 1) := by decide +kernel
theorem dX5_span_14 : decode cX5_span 14 = .ok (.iconst 1, 1) := by decide +kernel
theorem dX5_span_15 : decode cX5_span 15 = .ok (.invokestatic 44, 3) := by decide +kernel
theorem dX5_span_18 : decode cX5_span 18 = .ok (.ifCond .ne 6, 3) := by decide +kernel
theorem dX5_span_21 : decode cX5_span 21 = .ok (.bipush (-2), 2) := by decide +kernel
theorem dX5_span_23 : decode cX5_span 23 = .ok (.ireturn, 1) := by decide +kernel
theorem dX5_span_24 : decode cX5_span 24 = .ok (.aload_n 0, 1) := by decide +kernel
theorem dX5_span_25 : decode cX5_span 25 = .ok (.getfield 12, 3) := by decide +kernel
theorem dX5_span_28 : decode cX5_span 28 = .ok (.aload_n 0, 1) := by decide +kernel
theorem dX5_span_29 : decode cX5_span 29 = .ok (.getfield 12, 3) := by decide +kernel
theorem dX5_span_32 : decode cX5_span 32 = .ok (.iload_n 1, 1) := by decide +kernel
theorem dX5_span_33 : decode cX5_span 33 = .ok (.iload_n 2, 1) := by decide +kernel
theorem dX5_span_34 : decode cX5_span 34 = .ok (.invokevirtual 64, 3) := by decide +kernel
theorem dX5_span_37 : decode cX5_span 37 = .ok (.iload_n 3, 1) := by decide +kernel
theorem dX5_span_38 : decode cX5_span 38 = .ok (.invokevirtual 68, 3) := by decide +kernel
theorem dX5_span_41 : decode cX5_span 41 = .ok (.ireturn, 1) := by decide +kernel
set_option maxRecDepth 20000 in
theorem ggX5_apart_X2_hasThing : GoodIn wsX5_apart wsX2_hasThing := goodIn_r _ [6, 7, 8, 9, 10, 50, 51, 52, 53, 54] (by decide +kernel) (by decide +kernel)
set_option maxRecDepth 20000 in
theorem gX5_apart_X2_hasThing : GoodIn wsX5_apart (wsV RX5 71 RX2 yX2_hasThing wsX2_hasThing) := goodIn_app (goodIn_of _ (by decide +kernel)) ggX5_apart_X2_hasThing
set_option maxRecDepth 20000 in
theorem ggX5_apart_X2_strangers : GoodIn wsX5_apart wsX2_strangers := goodIn_r _ [14, 15, 16, 17, 18, 19, 20, 21, 22, 23, 24, 25, 5, 26, 27, 28, 29, 30, 31, 32, 33, 34, 35, 36, 37, 38, 39, 40, 41, 42, 43, 44, 50, 51, 52, 53, 54] (by decide +kernel) (by decide +kernel)
set_option maxRecDepth 20000 in
theorem gX5_apart_X2_strangers : GoodIn wsX5_apart (wsV RX5 75 RX2 yX2_strangers wsX2_strangers) := goodIn_app (goodIn_of _ (by decide +kernel)) ggX5_apart_X2_strangers
theorem dX5_apart_0 : decode cX5_apart 0 = .ok (.aload_n 0, 1) := by decide +kernel
theorem dX5_apart_1 : decode cX5_apart 1 = .ok (.getfield 12, 3) := by decide +kernel
theorem dX5_apart_4 : decode cX5_apart 4 = .ok (.iload_n 1, 1) := by decide +kernel
theorem dX5_apart_5 : decode cX5_apart 5 = .ok (.invokevirtual 71, 3) := by decide +kernel
theorem dX5_apart_8 : decode cX5_apart 8 = .ok (.ifCond .ne 6, 3) := by decide +kernel
theorem dX5_apart_11 : decode cX5_apart 11 = .ok (.bipush (-2), 2) := by decide +kernel
theorem dX5_apart_13 : decode cX5_apart 13 = .ok (.ireturn, 1) := by decide +kernel
theorem dX5_apart_14 : decode cX5_apart 14 = .ok (.aload_n 0, 1) := by decide +kernel
theorem dX5_apart_15 : decode cX5_apart 15 = .ok (.getfield 12, 3) := by decide +kernel
theorem dX5_apart_18 : decode cX5_apart 18 = .ok (.iload_n 1, 1) := by decide +kernel
theorem dX5_apart_19 : decode cX5_apart 19 = .ok (.invokevirtual 75, 3) := by decide +kernel
theorem dX5_apart_22 : decode cX5_apart 22 = .ok (.ireturn, 1) := by decide +kernel
set_option maxRecDepth 20000 in
theorem ggX5_date_X2_hasThing : GoodIn wsX5_date wsX2_hasThing := goodIn_r _ [6, 7, 8, 9, 10, 53, 54, 55, 56, 57] (by decide +kernel) (by decide +kernel)
set_option maxRecDepth 20000 in
theorem gX5_date_X2_hasThing : GoodIn wsX5_date (wsV RX5 71 RX2 yX2_hasThing wsX2_hasThing) := goodIn_app (goodIn_of _ (by decide +kernel)) ggX5_date_X2_hasThing
set_option maxRecDepth 20000 in
theorem ggX5_date_X5_within : GoodIn wsX5_date wsX5_within := goodIn_r _ [10] (by decide +kernel) (by decide +kernel)
set_option maxRecDepth 20000 in
theorem gX5_date_X5_within : GoodIn wsX5_date (va_wsS RX5 44 yX5_within wsX5_within) := goodIn_app (goodIn_of _ (by decide +kernel)) ggX5_date_X5_within
set_option maxRecDepth 20000 in
theorem ggX5_date_X2_strangers : GoodIn wsX5_date wsX2_strangers := goodIn_r _ [15, 16, 17, 18, 19, 20, 21, 22, 23, 24, 25, 26, 5, 27, 28, 29, 30, 31, 32, 33, 34, 35, 36, 37, 38, 39, 40, 41, 42, 43, 44, 45, 53, 54, 55, 56, 57] (by decide +kernel) (by decide +kernel)
set_option maxRecDepth 20000 in
theorem gX5_date_X2_strangers : GoodIn wsX5_date (wsV RX5 75 RX2 yX2_strangers wsX2_strangers) := goodIn_app (goodIn_of _ (by decide +kernel)) ggX5_date_X2_strangers
set_option maxRecDepth 20000 in
theorem ggX5_date_X2_worksWithout : GoodIn wsX5_date wsX2_worksWithout := goodIn_r _ [27, 16, 28, 29, 30, 5, 31, 32, 53, 54, 55, 56, 57] (by decide +kernel) (by decide +kernel)
set_option maxRecDepth 20000 in
theorem gX5_date_X2_worksWithout : GoodIn wsX5_date (wsV RX5 78 RX2 yX2_worksWithout wsX2_worksWithout) := goodIn_app (goodIn_of _ (by decide +kernel)) ggX5_date_X2_worksWithout
set_option maxRecDepth 20000 in
theorem ggX5_date_X2_yearOf : GoodIn wsX5_date wsX2_yearOf := goodIn_r _ [36, 37, 38, 39, 40, 41, 42, 43, 44, 45, 53, 54, 55, 56, 57] (by decide +kernel) (by decide +kernel)
set_option maxRecDepth 20000 in
theorem gX5_date_X2_yearOf : GoodIn wsX5_date (wsV RX5 68 RX2 yX2_yearOf wsX2_yearOf) := goodIn_app (goodIn_of _ (by decide +kernel)) ggX5_date_X2_yearOf
theorem dX5_date_0 : decode cX5_date 0 = .ok (.aload_n 0, 1) := by decide +kernel
theorem dX5_date_1 : decode cX5_date 1 = .ok (.getfield 12, 3) := by decide +kernel
theorem dX5_date_4 : decode cX5_date 4 = .ok (.iload_n 1, 1) := by decide +kernel
theorem dX5_date_5 : decode cX5_date 5 = .ok (.invokevirtual 71, 3) := by decide +kernel
theorem dX5_date_8 : decode cX5_date 8 = .ok (.ifCond .eq 12, 3) := by decide +kernel
theorem dX5_date_11 : decode cX5_date 11 = .ok (.iload_n 2, 1) := by decide +kernel
theorem dX5_date_12 : decode cX5_date 12 = .ok (.iconst 0, 1) := by decide +kernel
theorem dX5_date_13 : decode cX5_date 13 = .ok (.iconst 1, 1) := by decide +kernel
theorem dX5_date_14 : decode cX5_date 14 = .ok (.invokestatic 44, 3) := by decide +kernel
theorem dX5_date_17 : decode cX5_date 17 = .ok (.ifCond .ne 6, 3) := by decide +kernel
theorem dX5_date_20 : decode cX5_date 20 = .ok (.bipush (-2), 2) := by decide +kernel
theorem dX5_date_22 : decode cX5_date 22 = .ok (.ireturn, 1) := by decide +kernel
theorem dX5_date_23 : decode cX5_date 23 = .ok (.aload_n 0, 1) := by decide +kernel
theorem dX5_date_24 : decode cX5_date 24 = .ok (.getfield 12, 3) := by decide +kernel
theorem dX5_date_27 : decode cX5_date 27 = .ok (.iload_n 1, 1) := by decide +kernel
theorem dX5_date_28 : decode cX5_date 28 = .ok (.invokevirtual 75, 3) := by decide +kernel
theorem dX5_date_31 : decode cX5_date 31 = .ok (.istore_n 3, 1) := by decide +kernel
theorem dX5_date_32 : decode cX5_date 32 = .ok (.iload_n 3, 1) := by decide +kernel
theorem dX5_date_33 : decode cX5_date 33 = .ok (.iconst (-1), 1) := by decide +kernel
theorem dX5_date_34 : decode cX5_date 34 = .ok (.if_icmp .ne 5, 3) := by decide +kernel
theorem dX5_date_37 : decode cX5_date 37 = .ok (.iconst (-1), 1) := by decide +kernel
theorem dX5_date_38 : decode cX5_date 38 = .ok (.ireturn, 1) := by decide +kernel
theorem dX5_date_39 : decode cX5_date 39 = .ok (.aload_n 0, 1) := by decide +kernel
theorem dX5_date_40 : decode cX5_date 40 = .ok (.getfield 12, 3) := by decide +kernel
theorem dX5_date_43 : decode cX5_date 43 = .ok (.aload_n 0, 1) := by decide +kernel
theorem dX5_date_44 : decode cX5_date 44 = .ok (.getfield 12, 3) := by decide +kernel
theorem dX5_date_47 : decode cX5_date 47 = .ok (.iload_n 1, 1) := by decide +kernel
theorem dX5_date_48 : decode cX5_date 48 = .ok (.iload_n 3, 1) := by decide +kernel
theorem dX5_date_49 : decode cX5_date 49 = .ok (.invokevirtual 78, 3) := by decide +kernel
theorem dX5_date_52 : decode cX5_date 52 = .ok (.iload_n 2, 1) := by decide +kernel
theorem dX5_date_53 : decode cX5_date 53 = .ok (.invokevirtual 68, 3) := by decide +kernel
theorem dX5_date_56 : decode cX5_date 56 = .ok (.ireturn, 1) := by decide +kernel
set_option maxRecDepth 20000 in
theorem ggX5_hold_X2_hasThing : GoodIn wsX5_hold wsX2_hasThing := goodIn_r _ [7, 8, 9, 10, 11, 25, 26, 27, 28, 29] (by decide +kernel) (by decide +kernel)
set_option maxRecDepth 20000 in
theorem gX5_hold_X2_hasThing : GoodIn wsX5_hold (wsV RX5 71 RX2 yX2_hasThing wsX2_hasThing) := goodIn_app (goodIn_of _ (by decide +kernel)) ggX5_hold_X2_hasThing
set_option maxRecDepth 20000 in
theorem ggX5_hold_X5_within : GoodIn wsX5_hold wsX5_within := goodIn_r _ [11] (by decide +kernel) (by decide +kernel)
set_option maxRecDepth 20000 in
theorem gX5_hold_X5_within : GoodIn wsX5_hold (va_wsS RX5 44 yX5_within wsX5_within) := goodIn_app (goodIn_of _ (by decide +kernel)) ggX5_hold_X5_within
set_option maxRecDepth 20000 in
theorem ggX5_hold_X4_handOver : GoodIn wsX5_hold wsX4_handOver := goodIn_r _ [17, 18, 19, 30, 31, 32, 33, 34, 35, 36] (by decide +kernel) (by decide +kernel)
set_option maxRecDepth 20000 in
theorem gX5_hold_X4_handOver : GoodIn wsX5_hold (wsV RX5 81 RX4 yX4_handOver wsX4_handOver) := goodIn_app (goodIn_of _ (by decide +kernel)) ggX5_hold_X4_handOver
theorem dX5_hold_0 : decode cX5_hold 0 = .ok (.aload_n 0, 1) := by decide +kernel
theorem dX5_hold_1 : decode cX5_hold 1 = .ok (.getfield 12, 3) := by decide +kernel
theorem dX5_hold_4 : decode cX5_hold 4 = .ok (.iload_n 1, 1) := by decide +kernel
theorem dX5_hold_5 : decode cX5_hold 5 = .ok (.invokevirtual 71, 3) := by decide +kernel
theorem dX5_hold_8 : decode cX5_hold 8 = .ok (.ifCond .eq 13, 3) := by decide +kernel
theorem dX5_hold_11 : decode cX5_hold 11 = .ok (.iload_n 2, 1) := by decide +kernel
theorem dX5_hold_12 : decode cX5_hold 12 = .ok (.iconst (-1), 1) := by decide +kernel
theorem dX5_hold_13 : decode cX5_hold 13 = .ok (.bipush 7, 2) := by decide +kernel
theorem dX5_hold_15 : decode cX5_hold 15 = .ok (.invokestatic 44, 3) := by decide +kernel
theorem dX5_hold_18 : decode cX5_hold 18 = .ok (.ifCond .ne 6, 3) := by decide +kernel
theorem dX5_hold_21 : decode cX5_hold 21 = .ok (.bipush (-2), 2) := by decide +kernel
theorem dX5_hold_23 : decode cX5_hold 23 = .ok (.ireturn, 1) := by decide +kernel
theorem dX5_hold_24 : decode cX5_hold 24 = .ok (.aload_n 0, 1) := by decide +kernel
theorem dX5_hold_25 : decode cX5_hold 25 = .ok (.getfield 19, 3) := by decide +kernel
theorem dX5_hold_28 : decode cX5_hold 28 = .ok (.iload_n 1, 1) := by decide +kernel
theorem dX5_hold_29 : decode cX5_hold 29 = .ok (.iload_n 2, 1) := by decide +kernel
theorem dX5_hold_30 : decode cX5_hold 30 = .ok (.invokevirtual 81, 3) := by decide +kernel
theorem dX5_hold_33 : decode cX5_hold 33 = .ok (.ireturn, 1) := by decide +kernel
set_option maxRecDepth 20000 in
theorem ggX5_holder_X2_hasThing : GoodIn wsX5_holder wsX2_hasThing := goodIn_r _ [7, 8, 9, 10, 11, 23, 24, 25, 26, 27] (by decide +kernel) (by decide +kernel)
set_option maxRecDepth 20000 in
theorem gX5_holder_X2_hasThing : GoodIn wsX5_holder (wsV RX5 71 RX2 yX2_hasThing wsX2_hasThing) := goodIn_app (goodIn_of _ (by decide +kernel)) ggX5_holder_X2_hasThing
set_option maxRecDepth 20000 in
theorem ggX5_holder_X4_holderOf : GoodIn wsX5_holder wsX4_holderOf := goodIn_r _ [16, 17, 28, 29, 30, 31, 32, 33, 34] (by decide +kernel) (by decide +kernel)
set_option maxRecDepth 20000 in
theorem gX5_holder_X4_holderOf : GoodIn wsX5_holder (wsV RX5 84 RX4 yX4_holderOf wsX4_holderOf) := goodIn_app (goodIn_of _ (by decide +kernel)) ggX5_holder_X4_holderOf
theorem dX5_holder_0 : decode cX5_holder 0 = .ok (.aload_n 0, 1) := by decide +kernel
theorem dX5_holder_1 : decode cX5_holder 1 = .ok (.getfield 12, 3) := by decide +kernel
theorem dX5_holder_4 : decode cX5_holder 4 = .ok (.iload_n 1, 1) := by decide +kernel
theorem dX5_holder_5 : decode cX5_holder 5 = .ok (.invokevirtual 71, 3) := by decide +kernel
theorem dX5_holder_8 : decode cX5_holder 8 = .ok (.ifCond .ne 6, 3) := by decide +kernel
theorem dX5_holder_11 : decode cX5_holder 11 = .ok (.bipush (-2), 2) := by decide +kernel
theorem dX5_holder_13 : decode cX5_holder 13 = .ok (.ireturn, 1) := by decide +kernel
theorem dX5_holder_14 : decode cX5_holder 14 = .ok (.aload_n 0, 1) := by decide +kernel
theorem dX5_holder_15 : decode cX5_holder 15 = .ok (.getfield 19, 3) := by decide +kernel
theorem dX5_holder_18 : decode cX5_holder 18 = .ok (.iload_n 1, 1) := by decide +kernel
theorem dX5_holder_19 : decode cX5_holder 19 = .ok (.invokevirtual 84, 3) := by decide +kernel
theorem dX5_holder_22 : decode cX5_holder 22 = .ok (.ireturn, 1) := by decide +kernel
set_option maxRecDepth 20000 in
theorem ggX5_hours_X5_within : GoodIn wsX5_hours wsX5_within := goodIn_r _ [5] (by decide +kernel) (by decide +kernel)
set_option maxRecDepth 20000 in
theorem gX5_hours_X5_within : GoodIn wsX5_hours (va_wsS RX5 44 yX5_within wsX5_within) := goodIn_app (goodIn_of _ (by decide +kernel)) ggX5_hours_X5_within
set_option maxRecDepth 20000 in
theorem ggX5_hours_X4_passHours : GoodIn wsX5_hours wsX4_passHours := goodIn_r _ [10, 11, 17, 18, 19, 20, 21, 22, 23] (by decide +kernel) (by decide +kernel)
set_option maxRecDepth 20000 in
theorem gX5_hours_X4_passHours : GoodIn wsX5_hours (wsV RX5 87 RX4 yX4_passHours wsX4_passHours) := goodIn_app (goodIn_of _ (by decide +kernel)) ggX5_hours_X4_passHours
theorem dX5_hours_0 : decode cX5_hours 0 = .ok (.iload_n 1, 1) := by decide +kernel
theorem dX5_hours_1 : decode cX5_hours 1 = .ok (.iconst 1, 1) := by decide +kernel
theorem dX5_hours_2 : decode cX5_hours 2 = .ok (.bipush 20, 2) := by decide +kernel
theorem dX5_hours_4 : decode cX5_hours 4 = .ok (.invokestatic 44, 3) := by decide +kernel
theorem dX5_hours_7 : decode cX5_hours 7 = .ok (.ifCond .ne 6, 3) := by decide +kernel
theorem dX5_hours_10 : decode cX5_hours 10 = .ok (.bipush (-2), 2) := by decide +kernel
theorem dX5_hours_12 : decode cX5_hours 12 = .ok (.ireturn, 1) := by decide +kernel
theorem dX5_hours_13 : decode cX5_hours 13 = .ok (.aload_n 0, 1) := by decide +kernel
theorem dX5_hours_14 : decode cX5_hours 14 = .ok (.getfield 19, 3) := by decide +kernel
theorem dX5_hours_17 : decode cX5_hours 17 = .ok (.iload_n 1, 1) := by decide +kernel
theorem dX5_hours_18 : decode cX5_hours 18 = .ok (.invokevirtual 87, 3) := by decide +kernel
theorem dX5_hours_21 : decode cX5_hours 21 = .ok (.ireturn, 1) := by decide +kernel
set_option maxRecDepth 20000 in
theorem ggX5_sell_X2_hasThing : GoodIn wsX5_sell wsX2_hasThing := goodIn_r _ [8, 9, 10, 11, 12, 38, 39, 40, 41, 42] (by decide +kernel) (by decide +kernel)
set_option maxRecDepth 20000 in
theorem gX5_sell_X2_hasThing : GoodIn wsX5_sell (wsV RX5 71 RX2 yX2_hasThing wsX2_hasThing) := goodIn_app (goodIn_of _ (by decide +kernel)) ggX5_sell_X2_hasThing
set_option maxRecDepth 20000 in
theorem ggX5_sell_X5_isDealer : GoodIn wsX5_sell wsX5_isDealer := goodIn_r _ [15, 16, 10, 11, 12] (by decide +kernel) (by decide +kernel)
set_option maxRecDepth 20000 in
theorem gX5_sell_X5_isDealer : GoodIn wsX5_sell (va_wsS RX5 90 yX5_isDealer wsX5_isDealer) := goodIn_app (goodIn_of _ (by decide +kernel)) ggX5_sell_X5_isDealer
set_option maxRecDepth 20000 in
theorem ggX5_sell_X5_within : GoodIn wsX5_sell wsX5_within := goodIn_r _ [12] (by decide +kernel) (by decide +kernel)
set_option maxRecDepth 20000 in
theorem gX5_sell_X5_within : GoodIn wsX5_sell (va_wsS RX5 44 yX5_within wsX5_within) := goodIn_app (goodIn_of _ (by decide +kernel)) ggX5_sell_X5_within
set_option maxRecDepth 20000 in
theorem ggX5_sell_X4_addSale : GoodIn wsX5_sell wsX4_addSale := goodIn_r _ [21, 22, 23, 24, 25, 26, 27, 28, 29, 30, 31, 20, 32, 43, 44, 45, 46, 47, 48, 49] (by decide +kernel) (by decide +kernel)
set_option maxRecDepth 20000 in
theorem gX5_sell_X4_addSale : GoodIn wsX5_sell (wsV RX5 94 RX4 yX4_addSale wsX4_addSale) := goodIn_app (goodIn_of _ (by decide +kernel)) ggX5_sell_X4_addSale
theorem dX5_sell_0 : decode cX5_sell 0 = .ok (.aload_n 0, 1) := by decide +kernel
theorem dX5_sell_1 : decode cX5_sell 1 = .ok (.getfield 12, 3) := by decide +kernel
theorem dX5_sell_4 : decode cX5_sell 4 = .ok (.iload_n 1, 1) := by decide +kernel
theorem dX5_sell_5 : decode cX5_sell 5 = .ok (.invokevirtual 71, 3) := by decide +kernel
theorem dX5_sell_8 : decode cX5_sell 8 = .ok (.ifCond .eq 32, 3) := by decide +kernel
theorem dX5_sell_11 : decode cX5_sell 11 = .ok (.iload_n 2, 1) := by decide +kernel
theorem dX5_sell_12 : decode cX5_sell 12 = .ok (.invokestatic 90, 3) := by decide +kernel
theorem dX5_sell_15 : decode cX5_sell 15 = .ok (.ifCond .eq 25, 3) := by decide +kernel
theorem dX5_sell_18 : decode cX5_sell 18 = .ok (.iload_n 3, 1) := by decide +kernel
theorem dX5_sell_19 : decode cX5_sell 19 = .ok (.iconst 0, 1) := by decide +kernel
theorem dX5_sell_20 : decode cX5_sell 20 = .ok (.ldc 93, 2) := by decide +kernel
theorem dX5_sell_22 : decode cX5_sell 22 = .ok (.invokestatic 44, 3) := by decide +kernel
theorem dX5_sell_25 : decode cX5_sell 25 = .ok (.ifCond .eq 15, 3) := by decide +kernel
theorem dX5_sell_28 : decode cX5_sell 28 = .ok (.iload 4, 2) := by decide +kernel
theorem dX5_sell_30 : decode cX5_sell 30 = .ok (.iconst 0, 1) := by decide +kernel
theorem dX5_sell_31 : decode cX5_sell 31 = .ok (.sipush 2000, 3) := by decide +kernel
theorem dX5_sell_34 : decode cX5_sell 34 = .ok (.invokestatic 44, 3) := by decide +kernel
theorem dX5_sell_37 : decode cX5_sell 37 = .ok (.ifCond .ne 6, 3) := by decide +kernel
theorem dX5_sell_40 : decode cX5_sell 40 = .ok (.bipush (-2), 2) := by decide +kernel
theorem dX5_sell_42 : decode cX5_sell 42 = .ok (.ireturn, 1) := by decide +kernel
theorem dX5_sell_43 : decode cX5_sell 43 = .ok (.aload_n 0, 1) := by decide +kernel
theorem dX5_sell_44 : decode cX5_sell 44 = .ok (.getfield 19, 3) := by decide +kernel
theorem dX5_sell_47 : decode cX5_sell 47 = .ok (.iload_n 1, 1) := by decide +kernel
theorem dX5_sell_48 : decode cX5_sell 48 = .ok (.iload_n 2, 1) := by decide +kernel
theorem dX5_sell_49 : decode cX5_sell 49 = .ok (.iload_n 3, 1) := by decide +kernel
theorem dX5_sell_50 : decode cX5_sell 50 = .ok (.iload 4, 2) := by decide +kernel
theorem dX5_sell_52 : decode cX5_sell 52 = .ok (.invokevirtual 94, 3) := by decide +kernel
theorem dX5_sell_55 : decode cX5_sell 55 = .ok (.ireturn, 1) := by decide +kernel
set_option maxRecDepth 20000 in
theorem ggX5_back_X2_hasThing : GoodIn wsX5_back wsX2_hasThing := goodIn_r _ [7, 8, 9, 10, 11, 31, 32, 33, 34, 35] (by decide +kernel) (by decide +kernel)
set_option maxRecDepth 20000 in
theorem gX5_back_X2_hasThing : GoodIn wsX5_back (wsV RX5 71 RX2 yX2_hasThing wsX2_hasThing) := goodIn_app (goodIn_of _ (by decide +kernel)) ggX5_back_X2_hasThing
set_option maxRecDepth 20000 in
theorem ggX5_back_X4_giveBack : GoodIn wsX5_back wsX4_giveBack := goodIn_r _ [16, 17, 18, 19, 20, 21, 22, 23, 24, 15, 25, 36, 37, 38, 39, 40, 41, 42] (by decide +kernel) (by decide +kernel)
set_option maxRecDepth 20000 in
theorem gX5_back_X4_giveBack : GoodIn wsX5_back (wsV RX5 98 RX4 yX4_giveBack wsX4_giveBack) := goodIn_app (goodIn_of _ (by decide +kernel)) ggX5_back_X4_giveBack
theorem dX5_back_0 : decode cX5_back 0 = .ok (.aload_n 0, 1) := by decide +kernel
theorem dX5_back_1 : decode cX5_back 1 = .ok (.getfield 12, 3) := by decide +kernel
theorem dX5_back_4 : decode cX5_back 4 = .ok (.iload_n 1, 1) := by decide +kernel
theorem dX5_back_5 : decode cX5_back 5 = .ok (.invokevirtual 71, 3) := by decide +kernel
theorem dX5_back_8 : decode cX5_back 8 = .ok (.ifCond .ne 6, 3) := by decide +kernel
theorem dX5_back_11 : decode cX5_back 11 = .ok (.bipush (-2), 2) := by decide +kernel
theorem dX5_back_13 : decode cX5_back 13 = .ok (.ireturn, 1) := by decide +kernel
theorem dX5_back_14 : decode cX5_back 14 = .ok (.aload_n 0, 1) := by decide +kernel
theorem dX5_back_15 : decode cX5_back 15 = .ok (.getfield 19, 3) := by decide +kernel
theorem dX5_back_18 : decode cX5_back 18 = .ok (.iload_n 1, 1) := by decide +kernel
theorem dX5_back_19 : decode cX5_back 19 = .ok (.invokevirtual 98, 3) := by decide +kernel
theorem dX5_back_22 : decode cX5_back 22 = .ok (.ireturn, 1) := by decide +kernel
set_option maxRecDepth 20000 in
theorem ggX5_sale_X5_within : GoodIn wsX5_sale wsX5_within := goodIn_r _ [5] (by decide +kernel) (by decide +kernel)
set_option maxRecDepth 20000 in
theorem gX5_sale_X5_within : GoodIn wsX5_sale (va_wsS RX5 44 yX5_within wsX5_within) := goodIn_app (goodIn_of _ (by decide +kernel)) ggX5_sale_X5_within
set_option maxRecDepth 20000 in
theorem ggX5_sale_X4_saleCount : GoodIn wsX5_sale wsX4_saleCount := goodIn_r _ [10, 11, 22, 23, 24, 25, 26, 27, 28] (by decide +kernel) (by decide +kernel)
set_option maxRecDepth 20000 in
theorem gX5_sale_X4_saleCount : GoodIn wsX5_sale (wsV RX5 101 RX4 yX4_saleCount wsX4_saleCount) := goodIn_app (goodIn_of _ (by decide +kernel)) ggX5_sale_X4_saleCount
set_option maxRecDepth 20000 in
theorem ggX5_sale_X4_field : GoodIn wsX5_sale wsX4_field := goodIn_r _ [15, 16, 22, 23, 24, 25, 26, 27, 28] (by decide +kernel) (by decide +kernel)
set_option maxRecDepth 20000 in
theorem gX5_sale_X4_field : GoodIn wsX5_sale (wsV RX5 105 RX4 yX4_field wsX4_field) := goodIn_app (goodIn_of _ (by decide +kernel)) ggX5_sale_X4_field
theorem dX5_sale_0 : decode cX5_sale 0 = .ok (.iload_n 1, 1) := by decide +kernel
theorem dX5_sale_1 : decode cX5_sale 1 = .ok (.ifCond .lt 13, 3) := by decide +kernel
theorem dX5_sale_4 : decode cX5_sale 4 = .ok (.iload_n 2, 1) := by decide +kernel
theorem dX5_sale_5 : decode cX5_sale 5 = .ok (.iconst 0, 1) := by decide +kernel
theorem dX5_sale_6 : decode cX5_sale 6 = .ok (.bipush 6, 2) := by decide +kernel
theorem dX5_sale_8 : decode cX5_sale 8 = .ok (.invokestatic 44, 3) := by decide +kernel
theorem dX5_sale_11 : decode cX5_sale 11 = .ok (.ifCond .ne 6, 3) := by decide +kernel
theorem dX5_sale_14 : decode cX5_sale 14 = .ok (.bipush (-2), 2) := by decide +kernel
theorem dX5_sale_16 : decode cX5_sale 16 = .ok (.ireturn, 1) := by decide +kernel
theorem dX5_sale_17 : decode cX5_sale 17 = .ok (.iload_n 1, 1) := by decide +kernel
theorem dX5_sale_18 : decode cX5_sale 18 = .ok (.aload_n 0, 1) := by decide +kernel
theorem dX5_sale_19 : decode cX5_sale 19 = .ok (.getfield 19, 3) := by decide +kernel
theorem dX5_sale_22 : decode cX5_sale 22 = .ok (.invokevirtual 101, 3) := by decide +kernel
theorem dX5_sale_25 : decode cX5_sale 25 = .ok (.if_icmp .lt 5, 3) := by decide +kernel
theorem dX5_sale_28 : decode cX5_sale 28 = .ok (.iconst (-1), 1) := by decide +kernel
theorem dX5_sale_29 : decode cX5_sale 29 = .ok (.ireturn, 1) := by decide +kernel
theorem dX5_sale_30 : decode cX5_sale 30 = .ok (.aload_n 0, 1) := by decide +kernel
theorem dX5_sale_31 : decode cX5_sale 31 = .ok (.getfield 19, 3) := by decide +kernel
theorem dX5_sale_34 : decode cX5_sale 34 = .ok (.iload_n 1, 1) := by decide +kernel
theorem dX5_sale_35 : decode cX5_sale 35 = .ok (.iload_n 2, 1) := by decide +kernel
theorem dX5_sale_36 : decode cX5_sale 36 = .ok (.invokevirtual 105, 3) := by decide +kernel
theorem dX5_sale_39 : decode cX5_sale 39 = .ok (.ireturn, 1) := by decide +kernel
set_option maxRecDepth 20000 in
theorem ggX5_gain_X5_isDealer : GoodIn wsX5_gain wsX5_isDealer := goodIn_r _ [6, 7, 8, 5, 9] (by decide +kernel) (by decide +kernel)
set_option maxRecDepth 20000 in
theorem gX5_gain_X5_isDealer : GoodIn wsX5_gain (va_wsS RX5 90 yX5_isDealer wsX5_isDealer) := goodIn_app (goodIn_of _ (by decide +kernel)) ggX5_gain_X5_isDealer
set_option maxRecDepth 20000 in
theorem ggX5_gain_X4_gainOf : GoodIn wsX5_gain wsX4_gainOf := goodIn_r _ [14, 15, 16, 17, 18, 13, 19, 20, 21, 22, 23, 24, 30, 31, 32, 33, 34, 35, 36] (by decide +kernel) (by decide +kernel)
set_option maxRecDepth 20000 in
theorem gX5_gain_X4_gainOf : GoodIn wsX5_gain (wsV RX5 108 RX4 yX4_gainOf wsX4_gainOf) := goodIn_app (goodIn_of _ (by decide +kernel)) ggX5_gain_X4_gainOf
theorem dX5_gain_0 : decode cX5_gain 0 = .ok (.iload_n 1, 1) := by decide +kernel
theorem dX5_gain_1 : decode cX5_gain 1 = .ok (.invokestatic 90, 3) := by decide +kernel
theorem dX5_gain_4 : decode cX5_gain 4 = .ok (.ifCond .eq 14, 3) := by decide +kernel
theorem dX5_gain_7 : decode cX5_gain 7 = .ok (.aload_n 0, 1) := by decide +kernel
theorem dX5_gain_8 : decode cX5_gain 8 = .ok (.getfield 19, 3) := by decide +kernel
theorem dX5_gain_11 : decode cX5_gain 11 = .ok (.iload_n 1, 1) := by decide +kernel
theorem dX5_gain_12 : decode cX5_gain 12 = .ok (.invokevirtual 108, 3) := by decide +kernel
theorem dX5_gain_15 : decode cX5_gain 15 = .ok (.goto 5, 3) := by decide +kernel
theorem dX5_gain_18 : decode cX5_gain 18 = .ok (.ldc 111, 2) := by decide +kernel
theorem dX5_gain_20 : decode cX5_gain 20 = .ok (.ireturn, 1) := by decide +kernel
set_option maxRecDepth 20000 in
theorem ggX5_rose_X2_hasThing : GoodIn wsX5_rose wsX2_hasThing := goodIn_r _ [8, 9, 10, 11, 12, 33, 34, 35, 36, 37] (by decide +kernel) (by decide +kernel)
set_option maxRecDepth 20000 in
theorem gX5_rose_X2_hasThing : GoodIn wsX5_rose (wsV RX5 71 RX2 yX2_hasThing wsX2_hasThing) := goodIn_app (goodIn_of _ (by decide +kernel)) ggX5_rose_X2_hasThing
set_option maxRecDepth 20000 in
theorem ggX5_rose_X4_riseOf : GoodIn wsX5_rose wsX4_riseOf := goodIn_r _ [17, 18, 19, 20, 21, 16, 22, 23, 24, 25, 26, 27, 38, 39, 40, 41, 42, 43, 44] (by decide +kernel) (by decide +kernel)
set_option maxRecDepth 20000 in
theorem gX5_rose_X4_riseOf : GoodIn wsX5_rose (wsV RX5 112 RX4 yX4_riseOf wsX4_riseOf) := goodIn_app (goodIn_of _ (by decide +kernel)) ggX5_rose_X4_riseOf
theorem dX5_rose_0 : decode cX5_rose 0 = .ok (.aload_n 0, 1) := by decide +kernel
theorem dX5_rose_1 : decode cX5_rose 1 = .ok (.getfield 12, 3) := by decide +kernel
theorem dX5_rose_4 : decode cX5_rose 4 = .ok (.iload_n 1, 1) := by decide +kernel
theorem dX5_rose_5 : decode cX5_rose 5 = .ok (.invokevirtual 71, 3) := by decide +kernel
theorem dX5_rose_8 : decode cX5_rose 8 = .ok (.ifCond .eq 14, 3) := by decide +kernel
theorem dX5_rose_11 : decode cX5_rose 11 = .ok (.aload_n 0, 1) := by decide +kernel
theorem dX5_rose_12 : decode cX5_rose 12 = .ok (.getfield 19, 3) := by decide +kernel
theorem dX5_rose_15 : decode cX5_rose 15 = .ok (.iload_n 1, 1) := by decide +kernel
theorem dX5_rose_16 : decode cX5_rose 16 = .ok (.invokevirtual 112, 3) := by decide +kernel
theorem dX5_rose_19 : decode cX5_rose 19 = .ok (.goto 5, 3) := by decide +kernel
theorem dX5_rose_22 : decode cX5_rose 22 = .ok (.ldc 111, 2) := by decide +kernel
theorem dX5_rose_24 : decode cX5_rose 24 = .ok (.ireturn, 1) := by decide +kernel
set_option maxRecDepth 20000 in
theorem ggX5_lot_X5_within : GoodIn wsX5_lot wsX5_within := goodIn_r _ [5] (by decide +kernel) (by decide +kernel)
set_option maxRecDepth 20000 in
theorem gX5_lot_X5_within : GoodIn wsX5_lot (va_wsS RX5 44 yX5_within wsX5_within) := goodIn_app (goodIn_of _ (by decide +kernel)) ggX5_lot_X5_within
set_option maxRecDepth 20000 in
theorem ggX5_lot_X5_mayHaveWon : GoodIn wsX5_lot wsX5_mayHaveWon := goodIn_r _ [8, 9, 10, 4, 11, 2, 3, 5] (by decide +kernel) (by decide +kernel)
set_option maxRecDepth 20000 in
theorem gX5_lot_X5_mayHaveWon : GoodIn wsX5_lot (va_wsS RX5 115 yX5_mayHaveWon wsX5_mayHaveWon) := goodIn_app (goodIn_of _ (by decide +kernel)) ggX5_lot_X5_mayHaveWon
set_option maxRecDepth 20000 in
theorem ggX5_lot_X0_addLot : GoodIn wsX5_lot wsX0_addLot := goodIn_r _ [16, 17, 18, 19, 20, 26, 27, 28, 29] (by decide +kernel) (by decide +kernel)
set_option maxRecDepth 20000 in
theorem gX5_lot_X0_addLot : GoodIn wsX5_lot (wsV RX5 118 RX0 yX0_addLot wsX0_addLot) := goodIn_app (goodIn_of _ (by decide +kernel)) ggX5_lot_X0_addLot
theorem dX5_lot_0 : decode cX5_lot 0 = .ok (.iload_n 1, 1) := by decide +kernel
theorem dX5_lot_1 : decode cX5_lot 1 = .ok (.iconst 0, 1) := by decide +kernel
theorem dX5_lot_2 : decode cX5_lot 2 = .ok (.sipush 255, 3) := by decide +kernel
theorem dX5_lot_5 : decode cX5_lot 5 = .ok (.invokestatic 44, 3) := by decide +kernel
theorem dX5_lot_8 : decode cX5_lot 8 = .ok (.ifCond .eq 22, 3) := by decide +kernel
theorem dX5_lot_11 : decode cX5_lot 11 = .ok (.iload_n 2, 1) := by decide +kernel
theorem dX5_lot_12 : decode cX5_lot 12 = .ok (.iconst 0, 1) := by decide +kernel
theorem dX5_lot_13 : decode cX5_lot 13 = .ok (.sipush 255, 3) := by decide +kernel
theorem dX5_lot_16 : decode cX5_lot 16 = .ok (.invokestatic 44, 3) := by decide +kernel
theorem dX5_lot_19 : decode cX5_lot 19 = .ok (.ifCond .eq 11, 3) := by decide +kernel
theorem dX5_lot_22 : decode cX5_lot 22 = .ok (.iload_n 2, 1) := by decide +kernel
theorem dX5_lot_23 : decode cX5_lot 23 = .ok (.iload_n 1, 1) := by decide +kernel
theorem dX5_lot_24 : decode cX5_lot 24 = .ok (.iconst (-1), 1) := by decide +kernel
theorem dX5_lot_25 : decode cX5_lot 25 = .ok (.ixor, 1) := by decide +kernel
theorem dX5_lot_26 : decode cX5_lot 26 = .ok (.iand, 1) := by decide +kernel
theorem dX5_lot_27 : decode cX5_lot 27 = .ok (.ifCond .eq 6, 3) := by decide +kernel
theorem dX5_lot_30 : decode cX5_lot 30 = .ok (.bipush (-2), 2) := by decide +kernel
theorem dX5_lot_32 : decode cX5_lot 32 = .ok (.ireturn, 1) := by decide +kernel
theorem dX5_lot_33 : decode cX5_lot 33 = .ok (.iload_n 2, 1) := by decide +kernel
theorem dX5_lot_34 : decode cX5_lot 34 = .ok (.iload_n 3, 1) := by decide +kernel
theorem dX5_lot_35 : decode cX5_lot 35 = .ok (.invokestatic 115, 3) := by decide +kernel
theorem dX5_lot_38 : decode cX5_lot 38 = .ok (.ifCond .ne 6, 3) := by decide +kernel
theorem dX5_lot_41 : decode cX5_lot 41 = .ok (.bipush (-2), 2) := by decide +kernel
theorem dX5_lot_43 : decode cX5_lot 43 = .ok (.ireturn, 1) := by decide +kernel
theorem dX5_lot_44 : decode cX5_lot 44 = .ok (.aload_n 0, 1) := by decide +kernel
theorem dX5_lot_45 : decode cX5_lot 45 = .ok (.getfield 26, 3) := by decide +kernel
theorem dX5_lot_48 : decode cX5_lot 48 = .ok (.iload_n 1, 1) := by decide +kernel
theorem dX5_lot_49 : decode cX5_lot 49 = .ok (.iload_n 2, 1) := by decide +kernel
theorem dX5_lot_50 : decode cX5_lot 50 = .ok (.iload_n 3, 1) := by decide +kernel
theorem dX5_lot_51 : decode cX5_lot 51 = .ok (.invokevirtual 118, 3) := by decide +kernel
theorem dX5_lot_54 : decode cX5_lot 54 = .ok (.ireturn, 1) := by decide +kernel
set_option maxRecDepth 20000 in
theorem ggX5_both_X5_areTwo : GoodIn wsX5_both wsX5_areTwo := goodIn_r _ [5, 6, 7, 4, 8, 9, 10, 11] (by decide +kernel) (by decide +kernel)
set_option maxRecDepth 20000 in
theorem gX5_both_X5_areTwo : GoodIn wsX5_both (va_wsS RX5 121 yX5_areTwo wsX5_areTwo) := goodIn_app (goodIn_of _ (by decide +kernel)) ggX5_both_X5_areTwo
set_option maxRecDepth 20000 in
theorem ggX5_both_X5_within : GoodIn wsX5_both wsX5_within := goodIn_r _ [11] (by decide +kernel) (by decide +kernel)
set_option maxRecDepth 20000 in
theorem gX5_both_X5_within : GoodIn wsX5_both (va_wsS RX5 44 yX5_within wsX5_within) := goodIn_app (goodIn_of _ (by decide +kernel)) ggX5_both_X5_within
set_option maxRecDepth 20000 in
theorem ggX5_both_X0_tally : GoodIn wsX5_both wsX0_tally := goodIn_r _ [16, 17, 18, 19, 25, 26, 27, 28] (by decide +kernel) (by decide +kernel)
set_option maxRecDepth 20000 in
theorem gX5_both_X0_tally : GoodIn wsX5_both (wsV RX5 124 RX0 yX0_tally wsX0_tally) := goodIn_app (goodIn_of _ (by decide +kernel)) ggX5_both_X0_tally
theorem dX5_both_0 : decode cX5_both 0 = .ok (.iload_n 1, 1) := by decide +kernel
theorem dX5_both_1 : decode cX5_both 1 = .ok (.iload_n 2, 1) := by decide +kernel
theorem dX5_both_2 : decode cX5_both 2 = .ok (.invokestatic 121, 3) := by decide +kernel
theorem dX5_both_5 : decode cX5_both 5 = .ok (.ifCond .eq 12, 3) := by decide +kernel
theorem dX5_both_8 : decode cX5_both 8 = .ok (.iload_n 3, 1) := by decide +kernel
theorem dX5_both_9 : decode cX5_both 9 = .ok (.iconst 0, 1) := by decide +kernel
theorem dX5_both_10 : decode cX5_both 10 = .ok (.iconst 3, 1) := by decide +kernel
theorem dX5_both_11 : decode cX5_both 11 = .ok (.invokestatic 44, 3) := by decide +kernel
theorem dX5_both_14 : decode cX5_both 14 = .ok (.ifCond .ne 6, 3) := by decide +kernel
theorem dX5_both_17 : decode cX5_both 17 = .ok (.bipush (-2), 2) := by decide +kernel
theorem dX5_both_19 : decode cX5_both 19 = .ok (.ireturn, 1) := by decide +kernel
theorem dX5_both_20 : decode cX5_both 20 = .ok (.aload_n 0, 1) := by decide +kernel
theorem dX5_both_21 : decode cX5_both 21 = .ok (.getfield 26, 3) := by decide +kernel
theorem dX5_both_24 : decode cX5_both 24 = .ok (.iload_n 1, 1) := by decide +kernel
theorem dX5_both_25 : decode cX5_both 25 = .ok (.iload_n 2, 1) := by decide +kernel
theorem dX5_both_26 : decode cX5_both 26 = .ok (.iload_n 3, 1) := by decide +kernel
theorem dX5_both_27 : decode cX5_both 27 = .ok (.invokevirtual 124, 3) := by decide +kernel
theorem dX5_both_30 : decode cX5_both 30 = .ok (.ireturn, 1) := by decide +kernel
set_option maxRecDepth 20000 in
theorem ggX5_chance_X5_areTwo : GoodIn wsX5_chance wsX5_areTwo := goodIn_r _ [10, 11, 12, 9, 13, 14, 15, 16] (by decide +kernel) (by decide +kernel)
set_option maxRecDepth 20000 in
theorem gX5_chance_X5_areTwo : GoodIn wsX5_chance (va_wsS RX5 121 yX5_areTwo wsX5_areTwo) := goodIn_app (goodIn_of _ (by decide +kernel)) ggX5_chance_X5_areTwo
set_option maxRecDepth 20000 in
theorem ggX5_chance_X5_within : GoodIn wsX5_chance wsX5_within := goodIn_r _ [16] (by decide +kernel) (by decide +kernel)
set_option maxRecDepth 20000 in
theorem gX5_chance_X5_within : GoodIn wsX5_chance (va_wsS RX5 44 yX5_within wsX5_within) := goodIn_app (goodIn_of _ (by decide +kernel)) ggX5_chance_X5_within
set_option maxRecDepth 20000 in
theorem ggX5_chance_X0_waysAsShy : GoodIn wsX5_chance wsX0_waysAsShy := goodIn_r _ [21, 22, 23, 24, 20, 25, 26, 27, 28, 29, 30, 31, 44, 45, 46, 47] (by decide +kernel) (by decide +kernel)
set_option maxRecDepth 20000 in
theorem gX5_chance_X0_waysAsShy : GoodIn wsX5_chance (wsV RX5 129 RX0 yX0_waysAsShy wsX0_waysAsShy) := goodIn_app (goodIn_of _ (by decide +kernel)) ggX5_chance_X0_waysAsShy
set_option maxRecDepth 20000 in
theorem ggX5_chance_X0_allWays : GoodIn wsX5_chance wsX0_allWays := goodIn_r _ [35, 22, 23, 24, 20, 25, 26, 27, 28, 29, 30, 31, 44, 45, 46, 47] (by decide +kernel) (by decide +kernel)
set_option maxRecDepth 20000 in
theorem gX5_chance_X0_allWays : GoodIn wsX5_chance (wsV RX5 133 RX0 yX0_allWays wsX0_allWays) := goodIn_app (goodIn_of _ (by decide +kernel)) ggX5_chance_X0_allWays
set_option maxRecDepth 20000 in
theorem ggX5_chance_X0_commonDivisor : GoodIn wsX5_chance wsX0_commonDivisor := goodIn_r _ [38] (by decide +kernel) (by decide +kernel)
set_option maxRecDepth 20000 in
theorem gX5_chance_X0_commonDivisor : GoodIn wsX5_chance (va_wsS RX5 136 yX0_commonDivisor wsX0_commonDivisor) := goodIn_app (goodIn_of _ (by decide +kernel)) ggX5_chance_X0_commonDivisor
theorem dX5_chance_0 : decode cX5_chance 0 = .ok (.iload_n 1, 1) := by decide +kernel
theorem dX5_chance_1 : decode cX5_chance 1 = .ok (.iload_n 2, 1) := by decide +kernel
theorem dX5_chance_2 : decode cX5_chance 2 = .ok (.invokestatic 121, 3) := by decide +kernel
theorem dX5_chance_5 : decode cX5_chance 5 = .ok (.ifCond .eq 12, 3) := by decide +kernel
theorem dX5_chance_8 : decode cX5_chance 8 = .ok (.iload_n 3, 1) := by decide +kernel
theorem dX5_chance_9 : decode cX5_chance 9 = .ok (.iconst 0, 1) := by decide +kernel
theorem dX5_chance_10 : decode cX5_chance 10 = .ok (.iconst 1, 1) := by decide +kernel
theorem dX5_chance_11 : decode cX5_chance 11 = .ok (.invokestatic 44, 3) := by decide +kernel
theorem dX5_chance_14 : decode cX5_chance 14 = .ok (.ifCond .ne 7, 3) := by decide +kernel
theorem dX5_chance_17 : decode cX5_chance 17 = .ok (.ldc2_w 127, 3) := by decide +kernel
theorem dX5_chance_20 : decode cX5_chance 20 = .ok (.lreturn, 1) := by decide +kernel
theorem dX5_chance_21 : decode cX5_chance 21 = .ok (.aload_n 0, 1) := by decide +kernel
theorem dX5_chance_22 : decode cX5_chance 22 = .ok (.getfield 26, 3) := by decide +kernel
theorem dX5_chance_25 : decode cX5_chance 25 = .ok (.iload_n 1, 1) := by decide +kernel
theorem dX5_chance_26 : decode cX5_chance 26 = .ok (.iload_n 2, 1) := by decide +kernel
theorem dX5_chance_27 : decode cX5_chance 27 = .ok (.invokevirtual 129, 3) := by decide +kernel
theorem dX5_chance_30 : decode cX5_chance 30 = .ok (.lstore 4, 2) := by decide +kernel
theorem dX5_chance_32 : decode cX5_chance 32 = .ok (.aload_n 0, 1) := by decide +kernel
theorem dX5_chance_33 : decode cX5_chance 33 = .ok (.getfield 26, 3) := by decide +kernel
theorem dX5_chance_36 : decode cX5_chance 36 = .ok (.iload_n 1, 1) := by decide +kernel
theorem dX5_chance_37 : decode cX5_chance 37 = .ok (.iload_n 2, 1) := by decide +kernel
theorem dX5_chance_38 : decode cX5_chance 38 = .ok (.invokevirtual 133, 3) := by decide +kernel
theorem dX5_chance_41 : decode cX5_chance 41 = .ok (.lstore 6, 2) := by decide +kernel
theorem dX5_chance_43 : decode cX5_chance 43 = .ok (.lconst 1, 1) := by decide +kernel
theorem dX5_chance_44 : decode cX5_chance 44 = .ok (.lload 4, 2) := by decide +kernel
theorem dX5_chance_46 : decode cX5_chance 46 = .ok (.lload 6, 2) := by decide +kernel
theorem dX5_chance_48 : decode cX5_chance 48 = .ok (.invokestatic 136, 3) := by decide +kernel
theorem dX5_chance_51 : decode cX5_chance 51 = .ok (.invokestatic 140, 3) := by decide +kernel
theorem dX5_chance_54 : decode cX5_chance 54 = .ok (.lstore 8, 2) := by decide +kernel
theorem dX5_chance_56 : decode cX5_chance 56 = .ok (.iload_n 3, 1) := by decide +kernel
theorem dX5_chance_57 : decode cX5_chance 57 = .ok (.ifCond .ne 8, 3) := by decide +kernel
theorem dX5_chance_60 : decode cX5_chance 60 = .ok (.lload 4, 2) := by decide +kernel
theorem dX5_chance_62 : decode cX5_chance 62 = .ok (.goto 5, 3) := by decide +kernel
theorem dX5_chance_65 : decode cX5_chance 65 = .ok (.lload 6, 2) := by decide +kernel
theorem dX5_chance_67 : decode cX5_chance 67 = .ok (.lload 8, 2) := by decide +kernel
theorem dX5_chance_69 : decode cX5_chance 69 = .ok (.ldiv, 1) := by decide +kernel
theorem dX5_chance_70 : decode cX5_chance 70 = .ok (.lreturn, 1) := by decide +kernel
set_option maxRecDepth 20000 in
theorem ggX5_shyest_X0_shyestTwo : GoodIn wsX5_shyest wsX0_shyestTwo := goodIn_r _ [6, 7, 8, 9, 5, 10, 11, 12, 13, 14, 15, 16, 17, 18, 19, 20, 21, 22, 23, 24, 25, 26, 27, 28, 34, 35, 36, 37] (by decide +kernel) (by decide +kernel)
set_option maxRecDepth 20000 in
theorem gX5_shyest_X0_shyestTwo : GoodIn wsX5_shyest (wsV RX5 145 RX0 yX0_shyestTwo wsX0_shyestTwo) := goodIn_app (goodIn_of _ (by decide +kernel)) ggX5_shyest_X0_shyestTwo
theorem dX5_shyest_0 : decode cX5_shyest 0 = .ok (.aload_n 0, 1) := by decide +kernel
theorem dX5_shyest_1 : decode cX5_shyest 1 = .ok (.getfield 26, 3) := by decide +kernel
theorem dX5_shyest_4 : decode cX5_shyest 4 = .ok (.invokevirtual 145, 3) := by decide +kernel
theorem dX5_shyest_7 : decode cX5_shyest 7 = .ok (.ireturn, 1) := by decide +kernel
set_option maxRecDepth 20000 in
theorem ggX5_inside_X5_within : GoodIn wsX5_inside wsX5_within := goodIn_r _ [5] (by decide +kernel) (by decide +kernel)
set_option maxRecDepth 20000 in
theorem gX5_inside_X5_within : GoodIn wsX5_inside (va_wsS RX5 44 yX5_within wsX5_within) := goodIn_app (goodIn_of _ (by decide +kernel)) ggX5_inside_X5_within
set_option maxRecDepth 20000 in
theorem ggX5_inside_J6_bitCount_0f7a4 : GoodIn wsX5_inside wsJ6_bitCount_0f7a4 := goodIn_r _ [9, 10, 11, 12] (by decide +kernel) (by decide +kernel)
set_option maxRecDepth 20000 in
theorem gX5_inside_J6_bitCount_0f7a4 : GoodIn wsX5_inside (va_wsS RX5 148 yJ6_bitCount_0f7a4 wsJ6_bitCount_0f7a4) := goodIn_app (goodIn_of _ (by decide +kernel)) ggX5_inside_J6_bitCount_0f7a4
theorem dX5_inside_0 : decode cX5_inside 0 = .ok (.iload_n 1, 1) := by decide +kernel
theorem dX5_inside_1 : decode cX5_inside 1 = .ok (.iconst 0, 1) := by decide +kernel
theorem dX5_inside_2 : decode cX5_inside 2 = .ok (.sipush 255, 3) := by decide +kernel
theorem dX5_inside_5 : decode cX5_inside 5 = .ok (.invokestatic 44, 3) := by decide +kernel
theorem dX5_inside_8 : decode cX5_inside 8 = .ok (.ifCond .eq 33, 3) := by decide +kernel
theorem dX5_inside_11 : decode cX5_inside 11 = .ok (.iload_n 2, 1) := by decide +kernel
theorem dX5_inside_12 : decode cX5_inside 12 = .ok (.iconst 0, 1) := by decide +kernel
theorem dX5_inside_13 : decode cX5_inside 13 = .ok (.ldc 93, 2) := by decide +kernel
theorem dX5_inside_15 : decode cX5_inside 15 = .ok (.invokestatic 44, 3) := by decide +kernel
theorem dX5_inside_18 : decode cX5_inside 18 = .ok (.ifCond .eq 23, 3) := by decide +kernel
theorem dX5_inside_21 : decode cX5_inside 21 = .ok (.iload_n 3, 1) := by decide +kernel
theorem dX5_inside_22 : decode cX5_inside 22 = .ok (.iload_n 2, 1) := by decide +kernel
theorem dX5_inside_23 : decode cX5_inside 23 = .ok (.ldc 93, 2) := by decide +kernel
theorem dX5_inside_25 : decode cX5_inside 25 = .ok (.invokestatic 44, 3) := by decide +kernel
theorem dX5_inside_28 : decode cX5_inside 28 = .ok (.ifCond .eq 13, 3) := by decide +kernel
theorem dX5_inside_31 : decode cX5_inside 31 = .ok (.iload 4, 2) := by decide +kernel
theorem dX5_inside_33 : decode cX5_inside 33 = .ok (.iconst 0, 1) := by decide +kernel
theorem dX5_inside_34 : decode cX5_inside 34 = .ok (.iconst 1, 1) := by decide +kernel
theorem dX5_inside_35 : decode cX5_inside 35 = .ok (.invokestatic 44, 3) := by decide +kernel
theorem dX5_inside_38 : decode cX5_inside 38 = .ok (.ifCond .ne 6, 3) := by decide +kernel
theorem dX5_inside_41 : decode cX5_inside 41 = .ok (.bipush (-2), 2) := by decide +kernel
theorem dX5_inside_43 : decode cX5_inside 43 = .ok (.ireturn, 1) := by decide +kernel
theorem dX5_inside_44 : decode cX5_inside 44 = .ok (.iload_n 1, 1) := by decide +kernel
theorem dX5_inside_45 : decode cX5_inside 45 = .ok (.invokestatic 148, 3) := by decide +kernel
theorem dX5_inside_48 : decode cX5_inside 48 = .ok (.istore 5, 2) := by decide +kernel
theorem dX5_inside_50 : decode cX5_inside 50 = .ok (.iload 5, 2) := by decide +kernel
theorem dX5_inside_52 : decode cX5_inside 52 = .ok (.iconst 2, 1) := by decide +kernel
theorem dX5_inside_53 : decode cX5_inside 53 = .ok (.if_icmp .ge 6, 3) := by decide +kernel
theorem dX5_inside_56 : decode cX5_inside 56 = .ok (.bipush (-2), 2) := by decide +kernel
theorem dX5_inside_58 : decode cX5_inside 58 = .ok (.ireturn, 1) := by decide +kernel
theorem dX5_inside_59 : decode cX5_inside 59 = .ok (.iload_n 3, 1) := by decide +kernel
theorem dX5_inside_60 : decode cX5_inside 60 = .ok (.iload_n 2, 1) := by decide +kernel
theorem dX5_inside_61 : decode cX5_inside 61 = .ok (.isub, 1) := by decide +kernel
theorem dX5_inside_62 : decode cX5_inside 62 = .ok (.iload 5, 2) := by decide +kernel
theorem dX5_inside_64 : decode cX5_inside 64 = .ok (.idiv, 1) := by decide +kernel
theorem dX5_inside_65 : decode cX5_inside 65 = .ok (.istore 6, 2) := by decide +kernel
theorem dX5_inside_67 : decode cX5_inside 67 = .ok (.iload 4, 2) := by decide +kernel
theorem dX5_inside_69 : decode cX5_inside 69 = .ok (.ifCond .ne 8, 3) := by decide +kernel
theorem dX5_inside_72 : decode cX5_inside 72 = .ok (.iload 6, 2) := by decide +kernel
theorem dX5_inside_74 : decode cX5_inside 74 = .ok (.goto 14, 3) := by decide +kernel
theorem dX5_inside_77 : decode cX5_inside 77 = .ok (.iload_n 3, 1) := by decide +kernel
theorem dX5_inside_78 : decode cX5_inside 78 = .ok (.iload_n 2, 1) := by decide +kernel
theorem dX5_inside_79 : decode cX5_inside 79 = .ok (.isub, 1) := by decide +kernel
theorem dX5_inside_80 : decode cX5_inside 80 = .ok (.iload 6, 2) := by decide +kernel
theorem dX5_inside_82 : decode cX5_inside 82 = .ok (.iload 5, 2) := by decide +kernel
theorem dX5_inside_84 : decode cX5_inside 84 = .ok (.iconst 1, 1) := by decide +kernel
theorem dX5_inside_85 : decode cX5_inside 85 = .ok (.isub, 1) := by decide +kernel
theorem dX5_inside_86 : decode cX5_inside 86 = .ok (.imul, 1) := by decide +kernel
theorem dX5_inside_87 : decode cX5_inside 87 = .ok (.isub, 1) := by decide +kernel
theorem dX5_inside_88 : decode cX5_inside 88 = .ok (.ireturn, 1) := by decide +kernel
set_option maxRecDepth 20000 in
theorem ggX5_entry_X5_within : GoodIn wsX5_entry wsX5_within := goodIn_r _ [5] (by decide +kernel) (by decide +kernel)
set_option maxRecDepth 20000 in
theorem gX5_entry_X5_within : GoodIn wsX5_entry (va_wsS RX5 44 yX5_within wsX5_within) := goodIn_app (goodIn_of _ (by decide +kernel)) ggX5_entry_X5_within
set_option maxRecDepth 20000 in
theorem ggX5_entry_X3_addEntry : GoodIn wsX5_entry wsX3_addEntry := goodIn_r _ [10, 11, 12, 18, 19, 20, 21, 22, 23] (by decide +kernel) (by decide +kernel)
set_option maxRecDepth 20000 in
theorem gX5_entry_X3_addEntry : GoodIn wsX5_entry (wsV RX5 153 RX3 yX3_addEntry wsX3_addEntry) := goodIn_app (goodIn_of _ (by decide +kernel)) ggX5_entry_X3_addEntry
theorem dX5_entry_0 : decode cX5_entry 0 = .ok (.iload_n 1, 1) := by decide +kernel
theorem dX5_entry_1 : decode cX5_entry 1 = .ok (.iconst 0, 1) := by decide +kernel
theorem dX5_entry_2 : decode cX5_entry 2 = .ok (.sipush 4095, 3) := by decide +kernel
theorem dX5_entry_5 : decode cX5_entry 5 = .ok (.invokestatic 44, 3) := by decide +kernel
theorem dX5_entry_8 : decode cX5_entry 8 = .ok (.ifCond .ne 6, 3) := by decide +kernel
theorem dX5_entry_11 : decode cX5_entry 11 = .ok (.bipush (-2), 2) := by decide +kernel
theorem dX5_entry_13 : decode cX5_entry 13 = .ok (.ireturn, 1) := by decide +kernel
theorem dX5_entry_14 : decode cX5_entry 14 = .ok (.aload_n 0, 1) := by decide +kernel
theorem dX5_entry_15 : decode cX5_entry 15 = .ok (.getfield 33, 3) := by decide +kernel
theorem dX5_entry_18 : decode cX5_entry 18 = .ok (.iload_n 1, 1) := by decide +kernel
theorem dX5_entry_19 : decode cX5_entry 19 = .ok (.invokevirtual 153, 3) := by decide +kernel
theorem dX5_entry_22 : decode cX5_entry 22 = .ok (.ireturn, 1) := by decide +kernel
set_option maxRecDepth 20000 in
theorem ggX5_mark_X2_hasThing : GoodIn wsX5_mark wsX2_hasThing := goodIn_r _ [7, 8, 9, 10, 11, 25, 26, 27, 28, 29] (by decide +kernel) (by decide +kernel)
set_option maxRecDepth 20000 in
theorem gX5_mark_X2_hasThing : GoodIn wsX5_mark (wsV RX5 71 RX2 yX2_hasThing wsX2_hasThing) := goodIn_app (goodIn_of _ (by decide +kernel)) ggX5_mark_X2_hasThing
set_option maxRecDepth 20000 in
theorem ggX5_mark_X5_within : GoodIn wsX5_mark wsX5_within := goodIn_r _ [11] (by decide +kernel) (by decide +kernel)
set_option maxRecDepth 20000 in
theorem gX5_mark_X5_within : GoodIn wsX5_mark (va_wsS RX5 44 yX5_within wsX5_within) := goodIn_app (goodIn_of _ (by decide +kernel)) ggX5_mark_X5_within
set_option maxRecDepth 20000 in
theorem ggX5_mark_X3_changeMark : GoodIn wsX5_mark wsX3_changeMark := goodIn_r _ [17, 18, 19, 30, 31, 32, 33, 34, 35] (by decide +kernel) (by decide +kernel)
set_option maxRecDepth 20000 in
theorem gX5_mark_X3_changeMark : GoodIn wsX5_mark (wsV RX5 156 RX3 yX3_changeMark wsX3_changeMark) := goodIn_app (goodIn_of _ (by decide +kernel)) ggX5_mark_X3_changeMark
theorem dX5_mark_0 : decode cX5_mark 0 = .ok (.aload_n 0, 1) := by decide +kernel
theorem dX5_mark_1 : decode cX5_mark 1 = .ok (.getfield 12, 3) := by decide +kernel
theorem dX5_mark_4 : decode cX5_mark 4 = .ok (.iload_n 1, 1) := by decide +kernel
theorem dX5_mark_5 : decode cX5_mark 5 = .ok (.invokevirtual 71, 3) := by decide +kernel
theorem dX5_mark_8 : decode cX5_mark 8 = .ok (.ifCond .eq 22, 3) := by decide +kernel
theorem dX5_mark_11 : decode cX5_mark 11 = .ok (.iload_n 2, 1) := by decide +kernel
theorem dX5_mark_12 : decode cX5_mark 12 = .ok (.iconst 0, 1) := by decide +kernel
theorem dX5_mark_13 : decode cX5_mark 13 = .ok (.bipush 11, 2) := by decide +kernel
theorem dX5_mark_15 : decode cX5_mark 15 = .ok (.invokestatic 44, 3) := by decide +kernel
theorem dX5_mark_18 : decode cX5_mark 18 = .ok (.ifCond .eq 12, 3) := by decide +kernel
theorem dX5_mark_21 : decode cX5_mark 21 = .ok (.iload_n 3, 1) := by decide +kernel
theorem dX5_mark_22 : decode cX5_mark 22 = .ok (.iconst 0, 1) := by decide +kernel
theorem dX5_mark_23 : decode cX5_mark 23 = .ok (.iconst 2, 1) := by decide +kernel
theorem dX5_mark_24 : decode cX5_mark 24 = .ok (.invokestatic 44, 3) := by decide +kernel
theorem dX5_mark_27 : decode cX5_mark 27 = .ok (.ifCond .ne 6, 3) := by decide +kernel
theorem dX5_mark_30 : decode cX5_mark 30 = .ok (.bipush (-2), 2) := by decide +kernel
theorem dX5_mark_32 : decode cX5_mark 32 = .ok (.ireturn, 1) := by decide +kernel
theorem dX5_mark_33 : decode cX5_mark 33 = .ok (.aload_n 0, 1) := by decide +kernel
theorem dX5_mark_34 : decode cX5_mark 34 = .ok (.getfield 33, 3) := by decide +kernel
theorem dX5_mark_37 : decode cX5_mark 37 = .ok (.iload_n 1, 1) := by decide +kernel
theorem dX5_mark_38 : decode cX5_mark 38 = .ok (.iload_n 2, 1) := by decide +kernel
theorem dX5_mark_39 : decode cX5_mark 39 = .ok (.iload_n 3, 1) := by decide +kernel
theorem dX5_mark_40 : decode cX5_mark 40 = .ok (.invokevirtual 156, 3) := by decide +kernel
theorem dX5_mark_43 : decode cX5_mark 43 = .ok (.ireturn, 1) := by decide +kernel
set_option maxRecDepth 20000 in
theorem ggX5_score_X3_hasEntry : GoodIn wsX5_score wsX3_hasEntry := goodIn_r _ [7, 8, 9, 10, 11, 37, 38, 39, 40, 41, 42] (by decide +kernel) (by decide +kernel)
set_option maxRecDepth 20000 in
theorem gX5_score_X3_hasEntry : GoodIn wsX5_score (wsV RX5 159 RX3 yX3_hasEntry wsX3_hasEntry) := goodIn_app (goodIn_of _ (by decide +kernel)) ggX5_score_X3_hasEntry
set_option maxRecDepth 20000 in
theorem ggX5_score_X2_hasThing : GoodIn wsX5_score wsX2_hasThing := goodIn_r _ [16, 17, 9, 10, 11, 43, 44, 45, 46, 47] (by decide +kernel) (by decide +kernel)
set_option maxRecDepth 20000 in
theorem gX5_score_X2_hasThing : GoodIn wsX5_score (wsV RX5 71 RX2 yX2_hasThing wsX2_hasThing) := goodIn_app (goodIn_of _ (by decide +kernel)) ggX5_score_X2_hasThing
set_option maxRecDepth 20000 in
theorem ggX5_score_X3_scoreOf : GoodIn wsX5_score wsX3_scoreOf := goodIn_r _ [21, 22, 23, 24, 25, 26, 27, 28, 29, 30, 31, 37, 38, 39, 40, 41, 42] (by decide +kernel) (by decide +kernel)
set_option maxRecDepth 20000 in
theorem gX5_score_X3_scoreOf : GoodIn wsX5_score (wsV RX5 162 RX3 yX3_scoreOf wsX3_scoreOf) := goodIn_app (goodIn_of _ (by decide +kernel)) ggX5_score_X3_scoreOf
theorem dX5_score_0 : decode cX5_score 0 = .ok (.aload_n 0, 1) := by decide +kernel
theorem dX5_score_1 : decode cX5_score 1 = .ok (.getfield 33, 3) := by decide +kernel
theorem dX5_score_4 : decode cX5_score 4 = .ok (.iload_n 1, 1) := by decide +kernel
theorem dX5_score_5 : decode cX5_score 5 = .ok (.invokevirtual 159, 3) := by decide +kernel
theorem dX5_score_8 : decode cX5_score 8 = .ok (.ifCond .eq 14, 3) := by decide +kernel
theorem dX5_score_11 : decode cX5_score 11 = .ok (.aload_n 0, 1) := by decide +kernel
theorem dX5_score_12 : decode cX5_score 12 = .ok (.getfield 12, 3) := by decide +kernel
theorem dX5_score_15 : decode cX5_score 15 = .ok (.iload_n 2, 1) := by decide +kernel
theorem dX5_score_16 : decode cX5_score 16 = .ok (.invokevirtual 71, 3) := by decide +kernel
theorem dX5_score_19 : decode cX5_score 19 = .ok (.ifCond .ne 7, 3) := by decide +kernel
theorem dX5_score_22 : decode cX5_score 22 = .ok (.sipush (-1000), 3) := by decide +kernel
theorem dX5_score_25 : decode cX5_score 25 = .ok (.ireturn, 1) := by decide +kernel
theorem dX5_score_26 : decode cX5_score 26 = .ok (.aload_n 0, 1) := by decide +kernel
theorem dX5_score_27 : decode cX5_score 27 = .ok (.getfield 33, 3) := by decide +kernel
theorem dX5_score_30 : decode cX5_score 30 = .ok (.iload_n 1, 1) := by decide +kernel
theorem dX5_score_31 : decode cX5_score 31 = .ok (.iload_n 2, 1) := by decide +kernel
theorem dX5_score_32 : decode cX5_score 32 = .ok (.invokevirtual 162, 3) := by decide +kernel
theorem dX5_score_35 : decode cX5_score 35 = .ok (.ireturn, 1) := by decide +kernel
set_option maxRecDepth 20000 in
theorem ggX5_joined_X3_isJoinable : GoodIn wsX5_joined wsX3_isJoinable := goodIn_r _ [7, 8, 71, 72, 73, 74, 75, 76] (by decide +kernel) (by decide +kernel)
set_option maxRecDepth 20000 in
theorem gX5_joined_X3_isJoinable : GoodIn wsX5_joined (wsV RX5 165 RX3 yX3_isJoinable wsX3_isJoinable) := goodIn_app (goodIn_of _ (by decide +kernel)) ggX5_joined_X3_isJoinable
set_option maxRecDepth 20000 in
theorem ggX5_joined_X2_thingCount : GoodIn wsX5_joined wsX2_thingCount := goodIn_r _ [13, 14, 77, 78, 79, 80, 81] (by decide +kernel) (by decide +kernel)
set_option maxRecDepth 20000 in
theorem gX5_joined_X2_thingCount : GoodIn wsX5_joined (wsV RX5 169 RX2 yX2_thingCount wsX2_thingCount) := goodIn_app (goodIn_of _ (by decide +kernel)) ggX5_joined_X2_thingCount
set_option maxRecDepth 20000 in
theorem ggX5_joined_X3_bestJoin : GoodIn wsX5_joined wsX3_bestJoin := goodIn_r _ [18, 8, 19, 20, 21, 22, 23, 24, 25, 26, 27, 28, 29, 30, 6, 31, 32, 33, 34, 35, 36, 37, 38, 39, 40, 41, 42, 43, 44, 45, 46, 47, 48, 49, 50, 51, 52, 53, 54, 55, 56, 57, 58, 59, 60, 61, 62, 71, 72, 73, 74, 75, 76] (by decide +kernel) (by decide +kernel)
set_option maxRecDepth 20000 in
theorem gX5_joined_X3_bestJoin : GoodIn wsX5_joined (wsV RX5 172 RX3 yX3_bestJoin wsX3_bestJoin) := goodIn_app (goodIn_of _ (by decide +kernel)) ggX5_joined_X3_bestJoin
set_option maxRecDepth 20000 in
theorem ggX5_joined_X3_sumIn : GoodIn wsX5_joined wsX3_sumIn := goodIn_r _ [65, 33] (by decide +kernel) (by decide +kernel)
set_option maxRecDepth 20000 in
theorem gX5_joined_X3_sumIn : GoodIn wsX5_joined (va_wsS RX5 175 yX3_sumIn wsX3_sumIn) := goodIn_app (goodIn_of _ (by decide +kernel)) ggX5_joined_X3_sumIn
theorem dX5_joined_0 : decode cX5_joined 0 = .ok (.aload_n 0, 1) := by decide +kernel
theorem dX5_joined_1 : decode cX5_joined 1 = .ok (.getfield 33, 3) := by decide +kernel
theorem dX5_joined_4 : decode cX5_joined 4 = .ok (.invokevirtual 165, 3) := by decide +kernel
theorem dX5_joined_7 : decode cX5_joined 7 = .ok (.ifCond .ne 6, 3) := by decide +kernel
theorem dX5_joined_10 : decode cX5_joined 10 = .ok (.bipush (-3), 2) := by decide +kernel
theorem dX5_joined_12 : decode cX5_joined 12 = .ok (.ireturn, 1) := by decide +kernel
theorem dX5_joined_13 : decode cX5_joined 13 = .ok (.aload_n 0, 1) := by decide +kernel
theorem dX5_joined_14 : decode cX5_joined 14 = .ok (.getfield 33, 3) := by decide +kernel
theorem dX5_joined_17 : decode cX5_joined 17 = .ok (.aload_n 0, 1) := by decide +kernel
theorem dX5_joined_18 : decode cX5_joined 18 = .ok (.getfield 12, 3) := by decide +kernel
theorem dX5_joined_21 : decode cX5_joined 21 = .ok (.invokevirtual 169, 3) := by decide +kernel
theorem dX5_joined_24 : decode cX5_joined 24 = .ok (.invokevirtual 172, 3) := by decide +kernel
theorem dX5_joined_27 : decode cX5_joined 27 = .ok (.invokestatic 175, 3) := by decide +kernel
theorem dX5_joined_30 : decode cX5_joined 30 = .ok (.ireturn, 1) := by decide +kernel
set_option maxRecDepth 20000 in
theorem ggX5_joinedTo_X3_hasEntry : GoodIn wsX5_joinedTo wsX3_hasEntry := goodIn_r _ [7, 8, 9, 10, 11, 72, 73, 74, 75, 76, 77] (by decide +kernel) (by decide +kernel)
set_option maxRecDepth 20000 in
theorem gX5_joinedTo_X3_hasEntry : GoodIn wsX5_joinedTo (wsV RX5 159 RX3 yX3_hasEntry wsX3_hasEntry) := goodIn_app (goodIn_of _ (by decide +kernel)) ggX5_joinedTo_X3_hasEntry
set_option maxRecDepth 20000 in
theorem ggX5_joinedTo_X3_isJoinable : GoodIn wsX5_joinedTo wsX3_isJoinable := goodIn_r _ [15, 8, 72, 73, 74, 75, 76, 77] (by decide +kernel) (by decide +kernel)
set_option maxRecDepth 20000 in
theorem gX5_joinedTo_X3_isJoinable : GoodIn wsX5_joinedTo (wsV RX5 165 RX3 yX3_isJoinable wsX3_isJoinable) := goodIn_app (goodIn_of _ (by decide +kernel)) ggX5_joinedTo_X3_isJoinable
set_option maxRecDepth 20000 in
theorem ggX5_joinedTo_X2_thingCount : GoodIn wsX5_joinedTo wsX2_thingCount := goodIn_r _ [20, 21, 78, 79, 80, 81, 82] (by decide +kernel) (by decide +kernel)
set_option maxRecDepth 20000 in
theorem gX5_joinedTo_X2_thingCount : GoodIn wsX5_joinedTo (wsV RX5 169 RX2 yX2_thingCount wsX2_thingCount) := goodIn_app (goodIn_of _ (by decide +kernel)) ggX5_joinedTo_X2_thingCount
set_option maxRecDepth 20000 in
theorem ggX5_joinedTo_X3_bestJoin : GoodIn wsX5_joinedTo wsX3_bestJoin := goodIn_r _ [25, 8, 26, 27, 28, 29, 30, 31, 32, 33, 34, 35, 36, 37, 6, 38, 39, 40, 41, 42, 4, 5, 7, 9, 10, 11, 43, 44, 45, 46, 47, 48, 49, 50, 51, 52, 53, 54, 55, 56, 57, 58, 59, 60, 61, 62, 63, 72, 73, 74, 75, 76, 77] (by decide +kernel) (by decide +kernel)
set_option maxRecDepth 20000 in
theorem gX5_joinedTo_X3_bestJoin : GoodIn wsX5_joinedTo (wsV RX5 172 RX3 yX3_bestJoin wsX3_bestJoin) := goodIn_app (goodIn_of _ (by decide +kernel)) ggX5_joinedTo_X3_bestJoin
set_option maxRecDepth 20000 in
theorem ggX5_joinedTo_X3_thingIn : GoodIn wsX5_joinedTo wsX3_thingIn := goodIn_r _ [66, 41, 9, 10, 11] (by decide +kernel) (by decide +kernel)
set_option maxRecDepth 20000 in
theorem gX5_joinedTo_X3_thingIn : GoodIn wsX5_joinedTo (va_wsS RX5 178 yX3_thingIn wsX3_thingIn) := goodIn_app (goodIn_of _ (by decide +kernel)) ggX5_joinedTo_X3_thingIn
theorem dX5_joinedTo_0 : decode cX5_joinedTo 0 = .ok (.aload_n 0, 1) := by decide +kernel
theorem dX5_joinedTo_1 : decode cX5_joinedTo 1 = .ok (.getfield 33, 3) := by decide +kernel
theorem dX5_joinedTo_4 : decode cX5_joinedTo 4 = .ok (.iload_n 1, 1) := by decide +kernel
theorem dX5_joinedTo_5 : decode cX5_joinedTo 5 = .ok (.invokevirtual 159, 3) := by decide +kernel
theorem dX5_joinedTo_8 : decode cX5_joinedTo 8 = .ok (.ifCond .ne 6, 3) := by decide +kernel
theorem dX5_joinedTo_11 : decode cX5_joinedTo 11 = .ok (.bipush (-2), 2) := by decide +kernel
theorem dX5_joinedTo_13 : decode cX5_joinedTo 13 = .ok (.ireturn, 1) := by decide +kernel
theorem dX5_joinedTo_14 : decode cX5_joinedTo 14 = .ok (.aload_n 0, 1) := by decide +kernel
theorem dX5_joinedTo_15 : decode cX5_joinedTo 15 = .ok (.getfield 33, 3) := by decide +kernel
theorem dX5_joinedTo_18 : decode cX5_joinedTo 18 = .ok (.invokevirtual 165, 3) := by decide +kernel
theorem dX5_joinedTo_21 : decode cX5_joinedTo 21 = .ok (.ifCond .ne 6, 3) := by decide +kernel
theorem dX5_joinedTo_24 : decode cX5_joinedTo 24 = .ok (.bipush (-3), 2) := by decide +kernel
theorem dX5_joinedTo_26 : decode cX5_joinedTo 26 = .ok (.ireturn, 1) := by decide +kernel
theorem dX5_joinedTo_27 : decode cX5_joinedTo 27 = .ok (.aload_n 0, 1) := by decide +kernel
theorem dX5_joinedTo_28 : decode cX5_joinedTo 28 = .ok (.getfield 33, 3) := by decide +kernel
theorem dX5_joinedTo_31 : decode cX5_joinedTo 31 = .ok (.aload_n 0, 1) := by decide +kernel
theorem dX5_joinedTo_32 : decode cX5_joinedTo 32 = .ok (.getfield 12, 3) := by decide +kernel
theorem dX5_joinedTo_35 : decode cX5_joinedTo 35 = .ok (.invokevirtual 169, 3) := by decide +kernel
theorem dX5_joinedTo_38 : decode cX5_joinedTo 38 = .ok (.invokevirtual 172, 3) := by decide +kernel
theorem dX5_joinedTo_41 : decode cX5_joinedTo 41 = .ok (.iload_n 1, 1) := by decide +kernel
theorem dX5_joinedTo_42 : decode cX5_joinedTo 42 = .ok (.invokestatic 178, 3) := by decide +kernel
theorem dX5_joinedTo_45 : decode cX5_joinedTo 45 = .ok (.ireturn, 1) := by decide +kernel
set_option maxRecDepth 20000 in
theorem ggX5_owe_X5_areTwo : GoodIn wsX5_owe wsX5_areTwo := goodIn_r _ [5, 6, 7, 4, 8, 9, 10, 11] (by decide +kernel) (by decide +kernel)
set_option maxRecDepth 20000 in
theorem gX5_owe_X5_areTwo : GoodIn wsX5_owe (va_wsS RX5 121 yX5_areTwo wsX5_areTwo) := goodIn_app (goodIn_of _ (by decide +kernel)) ggX5_owe_X5_areTwo
set_option maxRecDepth 20000 in
theorem ggX5_owe_X5_within : GoodIn wsX5_owe wsX5_within := goodIn_r _ [11] (by decide +kernel) (by decide +kernel)
set_option maxRecDepth 20000 in
theorem gX5_owe_X5_within : GoodIn wsX5_owe (va_wsS RX5 44 yX5_within wsX5_within) := goodIn_app (goodIn_of _ (by decide +kernel)) ggX5_owe_X5_within
set_option maxRecDepth 20000 in
theorem ggX5_owe_X1_change : GoodIn wsX5_owe wsX1_change := goodIn_r _ [16, 17, 23] (by decide +kernel) (by decide +kernel)
set_option maxRecDepth 20000 in
theorem gX5_owe_X1_change : GoodIn wsX5_owe (wsV RX5 181 RX1 yX1_change wsX1_change) := goodIn_app (goodIn_of _ (by decide +kernel)) ggX5_owe_X1_change
theorem dX5_owe_0 : decode cX5_owe 0 = .ok (.iload_n 1, 1) := by decide +kernel
theorem dX5_owe_1 : decode cX5_owe 1 = .ok (.iload_n 2, 1) := by decide +kernel
theorem dX5_owe_2 : decode cX5_owe 2 = .ok (.invokestatic 121, 3) := by decide +kernel
theorem dX5_owe_5 : decode cX5_owe 5 = .ok (.ifCond .eq 14, 3) := by decide +kernel
theorem dX5_owe_8 : decode cX5_owe 8 = .ok (.iload_n 3, 1) := by decide +kernel
theorem dX5_owe_9 : decode cX5_owe 9 = .ok (.iconst 0, 1) := by decide +kernel
theorem dX5_owe_10 : decode cX5_owe 10 = .ok (.sipush 10000, 3) := by decide +kernel
theorem dX5_owe_13 : decode cX5_owe 13 = .ok (.invokestatic 44, 3) := by decide +kernel
theorem dX5_owe_16 : decode cX5_owe 16 = .ok (.ifCond .ne 6, 3) := by decide +kernel
theorem dX5_owe_19 : decode cX5_owe 19 = .ok (.bipush (-2), 2) := by decide +kernel
theorem dX5_owe_21 : decode cX5_owe 21 = .ok (.ireturn, 1) := by decide +kernel
theorem dX5_owe_22 : decode cX5_owe 22 = .ok (.aload_n 0, 1) := by decide +kernel
theorem dX5_owe_23 : decode cX5_owe 23 = .ok (.getfield 40, 3) := by decide +kernel
theorem dX5_owe_26 : decode cX5_owe 26 = .ok (.iload_n 1, 1) := by decide +kernel
theorem dX5_owe_27 : decode cX5_owe 27 = .ok (.iload_n 2, 1) := by decide +kernel
theorem dX5_owe_28 : decode cX5_owe 28 = .ok (.iload_n 3, 1) := by decide +kernel
theorem dX5_owe_29 : decode cX5_owe 29 = .ok (.invokevirtual 181, 3) := by decide +kernel
theorem dX5_owe_32 : decode cX5_owe 32 = .ok (.ireturn, 1) := by decide +kernel
set_option maxRecDepth 20000 in
theorem ggX5_net_X5_isDealer : GoodIn wsX5_net wsX5_isDealer := goodIn_r _ [6, 7, 8, 5, 9] (by decide +kernel) (by decide +kernel)
set_option maxRecDepth 20000 in
theorem gX5_net_X5_isDealer : GoodIn wsX5_net (va_wsS RX5 90 yX5_isDealer wsX5_isDealer) := goodIn_app (goodIn_of _ (by decide +kernel)) ggX5_net_X5_isDealer
set_option maxRecDepth 20000 in
theorem ggX5_net_X1_netOf : GoodIn wsX5_net wsX1_netOf := goodIn_r _ [14, 15, 16, 17, 13, 18, 19, 20, 21, 22, 23, 29] (by decide +kernel) (by decide +kernel)
set_option maxRecDepth 20000 in
theorem gX5_net_X1_netOf : GoodIn wsX5_net (wsV RX5 184 RX1 yX1_netOf wsX1_netOf) := goodIn_app (goodIn_of _ (by decide +kernel)) ggX5_net_X1_netOf
theorem dX5_net_0 : decode cX5_net 0 = .ok (.iload_n 1, 1) := by decide +kernel
theorem dX5_net_1 : decode cX5_net 1 = .ok (.invokestatic 90, 3) := by decide +kernel
theorem dX5_net_4 : decode cX5_net 4 = .ok (.ifCond .eq 14, 3) := by decide +kernel
theorem dX5_net_7 : decode cX5_net 7 = .ok (.aload_n 0, 1) := by decide +kernel
theorem dX5_net_8 : decode cX5_net 8 = .ok (.getfield 40, 3) := by decide +kernel
theorem dX5_net_11 : decode cX5_net 11 = .ok (.iload_n 1, 1) := by decide +kernel
theorem dX5_net_12 : decode cX5_net 12 = .ok (.invokevirtual 184, 3) := by decide +kernel
theorem dX5_net_15 : decode cX5_net 15 = .ok (.goto 5, 3) := by decide +kernel
theorem dX5_net_18 : decode cX5_net 18 = .ok (.ldc 111, 2) := by decide +kernel
theorem dX5_net_20 : decode cX5_net 20 = .ok (.ireturn, 1) := by decide +kernel
set_option maxRecDepth 20000 in
theorem ggX5_fall_X5_isDealer : GoodIn wsX5_fall wsX5_isDealer := goodIn_r _ [6, 7, 8, 5, 9] (by decide +kernel) (by decide +kernel)
set_option maxRecDepth 20000 in
theorem gX5_fall_X5_isDealer : GoodIn wsX5_fall (va_wsS RX5 90 yX5_isDealer wsX5_isDealer) := goodIn_app (goodIn_of _ (by decide +kernel)) ggX5_fall_X5_isDealer
set_option maxRecDepth 20000 in
theorem ggX5_fall_X5_within : GoodIn wsX5_fall wsX5_within := goodIn_r _ [9] (by decide +kernel) (by decide +kernel)
set_option maxRecDepth 20000 in
theorem gX5_fall_X5_within : GoodIn wsX5_fall (va_wsS RX5 44 yX5_within wsX5_within) := goodIn_app (goodIn_of _ (by decide +kernel)) ggX5_fall_X5_within
set_option maxRecDepth 20000 in
theorem ggX5_fall_X1_fallFrom : GoodIn wsX5_fall wsX1_fallFrom := goodIn_r _ [14, 15, 16, 17, 13, 18, 19, 20, 21, 22, 23, 24, 25, 26, 27, 33] (by decide +kernel) (by decide +kernel)
set_option maxRecDepth 20000 in
theorem gX5_fall_X1_fallFrom : GoodIn wsX5_fall (wsV RX5 187 RX1 yX1_fallFrom wsX1_fallFrom) := goodIn_app (goodIn_of _ (by decide +kernel)) ggX5_fall_X1_fallFrom
theorem dX5_fall_0 : decode cX5_fall 0 = .ok (.iload_n 1, 1) := by decide +kernel
theorem dX5_fall_1 : decode cX5_fall 1 = .ok (.invokestatic 90, 3) := by decide +kernel
theorem dX5_fall_4 : decode cX5_fall 4 = .ok (.ifCond .eq 13, 3) := by decide +kernel
theorem dX5_fall_7 : decode cX5_fall 7 = .ok (.iload_n 2, 1) := by decide +kernel
theorem dX5_fall_8 : decode cX5_fall 8 = .ok (.iconst 0, 1) := by decide +kernel
theorem dX5_fall_9 : decode cX5_fall 9 = .ok (.ldc 93, 2) := by decide +kernel
theorem dX5_fall_11 : decode cX5_fall 11 = .ok (.invokestatic 44, 3) := by decide +kernel
theorem dX5_fall_14 : decode cX5_fall 14 = .ok (.ifCond .ne 6, 3) := by decide +kernel
theorem dX5_fall_17 : decode cX5_fall 17 = .ok (.bipush (-2), 2) := by decide +kernel
theorem dX5_fall_19 : decode cX5_fall 19 = .ok (.ireturn, 1) := by decide +kernel
theorem dX5_fall_20 : decode cX5_fall 20 = .ok (.aload_n 0, 1) := by decide +kernel
theorem dX5_fall_21 : decode cX5_fall 21 = .ok (.getfield 40, 3) := by decide +kernel
theorem dX5_fall_24 : decode cX5_fall 24 = .ok (.iload_n 1, 1) := by decide +kernel
theorem dX5_fall_25 : decode cX5_fall 25 = .ok (.iload_n 2, 1) := by decide +kernel
theorem dX5_fall_26 : decode cX5_fall 26 = .ok (.invokevirtual 187, 3) := by decide +kernel
theorem dX5_fall_29 : decode cX5_fall 29 = .ok (.ireturn, 1) := by decide +kernel
set_option maxRecDepth 20000 in
theorem ggX5_count_X2_thingCount : GoodIn wsX5_count wsX2_thingCount := goodIn_r _ [10, 11, 55, 56, 57, 58, 59] (by decide +kernel) (by decide +kernel)
set_option maxRecDepth 20000 in
theorem gX5_count_X2_thingCount : GoodIn wsX5_count (wsV RX5 169 RX2 yX2_thingCount wsX2_thingCount) := goodIn_app (goodIn_of _ (by decide +kernel)) ggX5_count_X2_thingCount
set_option maxRecDepth 20000 in
theorem ggX5_count_X4_saleCount : GoodIn wsX5_count wsX4_saleCount := goodIn_r _ [16, 17, 60, 61, 62, 63, 64, 65, 66] (by decide +kernel) (by decide +kernel)
set_option maxRecDepth 20000 in
theorem gX5_count_X4_saleCount : GoodIn wsX5_count (wsV RX5 101 RX4 yX4_saleCount wsX4_saleCount) := goodIn_app (goodIn_of _ (by decide +kernel)) ggX5_count_X4_saleCount
set_option maxRecDepth 20000 in
theorem ggX5_count_X4_standingCount : GoodIn wsX5_count wsX4_standingCount := goodIn_r _ [21, 17, 22, 23, 24, 15, 25, 26, 60, 61, 62, 63, 64, 65, 66] (by decide +kernel) (by decide +kernel)
set_option maxRecDepth 20000 in
theorem gX5_count_X4_standingCount : GoodIn wsX5_count (wsV RX5 190 RX4 yX4_standingCount wsX4_standingCount) := goodIn_app (goodIn_of _ (by decide +kernel)) ggX5_count_X4_standingCount
set_option maxRecDepth 20000 in
theorem ggX5_count_X0_lotCount : GoodIn wsX5_count wsX0_lotCount := goodIn_r _ [31, 32, 67, 68, 69, 70] (by decide +kernel) (by decide +kernel)
set_option maxRecDepth 20000 in
theorem gX5_count_X0_lotCount : GoodIn wsX5_count (wsV RX5 193 RX0 yX0_lotCount wsX0_lotCount) := goodIn_app (goodIn_of _ (by decide +kernel)) ggX5_count_X0_lotCount
set_option maxRecDepth 20000 in
theorem ggX5_count_X3_entryCount : GoodIn wsX5_count wsX3_entryCount := goodIn_r _ [37, 38, 71, 72, 73, 74, 75, 76] (by decide +kernel) (by decide +kernel)
set_option maxRecDepth 20000 in
theorem gX5_count_X3_entryCount : GoodIn wsX5_count (wsV RX5 196 RX3 yX3_entryCount wsX3_entryCount) := goodIn_app (goodIn_of _ (by decide +kernel)) ggX5_count_X3_entryCount
set_option maxRecDepth 20000 in
theorem ggX5_count_X4_currentHour : GoodIn wsX5_count wsX4_currentHour := goodIn_r _ [42, 43, 60, 61, 62, 63, 64, 65, 66] (by decide +kernel) (by decide +kernel)
set_option maxRecDepth 20000 in
theorem gX5_count_X4_currentHour : GoodIn wsX5_count (wsV RX5 199 RX4 yX4_currentHour wsX4_currentHour) := goodIn_app (goodIn_of _ (by decide +kernel)) ggX5_count_X4_currentHour
set_option maxRecDepth 20000 in
theorem ggX5_count_X1_total : GoodIn wsX5_count wsX1_total := goodIn_r _ [48, 49, 77] (by decide +kernel) (by decide +kernel)
set_option maxRecDepth 20000 in
theorem gX5_count_X1_total : GoodIn wsX5_count (wsV RX5 202 RX1 yX1_total wsX1_total) := goodIn_app (goodIn_of _ (by decide +kernel)) ggX5_count_X1_total
theorem dX5_count_0 : decode cX5_count 0 = .ok (.iload_n 1, 1) := by decide +kernel
theorem dX5_count_1 : decode cX5_count 1 = .ok (.tableswitch 99 0 6 #[43, 51, 59, 67, 75, 83, 91], 43) := by decide +kernel
theorem dX5_count_44 : decode cX5_count 44 = .ok (.aload_n 0, 1) := by decide +kernel
theorem dX5_count_45 : decode cX5_count 45 = .ok (.getfield 12, 3) := by decide +kernel
theorem dX5_count_48 : decode cX5_count 48 = .ok (.invokevirtual 169, 3) := by decide +kernel
theorem dX5_count_51 : decode cX5_count 51 = .ok (.ireturn, 1) := by decide +kernel
theorem dX5_count_52 : decode cX5_count 52 = .ok (.aload_n 0, 1) := by decide +kernel
theorem dX5_count_53 : decode cX5_count 53 = .ok (.getfield 19, 3) := by decide +kernel
theorem dX5_count_56 : decode cX5_count 56 = .ok (.invokevirtual 101, 3) := by decide +kernel
theorem dX5_count_59 : decode cX5_count 59 = .ok (.ireturn, 1) := by decide +kernel
theorem dX5_count_60 : decode cX5_count 60 = .ok (.aload_n 0, 1) := by decide +kernel
theorem dX5_count_61 : decode cX5_count 61 = .ok (.getfield 19, 3) := by decide +kernel
theorem dX5_count_64 : decode cX5_count 64 = .ok (.invokevirtual 190, 3) := by decide +kernel
theorem dX5_count_67 : decode cX5_count 67 = .ok (.ireturn, 1) := by decide +kernel
theorem dX5_count_68 : decode cX5_count 68 = .ok (.aload_n 0, 1) := by decide +kernel
theorem dX5_count_69 : decode cX5_count 69 = .ok (.getfield 26, 3) := by decide +kernel
theorem dX5_count_72 : decode cX5_count 72 = .ok (.invokevirtual 193, 3) := by decide +kernel
theorem dX5_count_75 : decode cX5_count 75 = .ok (.ireturn, 1) := by decide +kernel
theorem dX5_count_76 : decode cX5_count 76 = .ok (.aload_n 0, 1) := by decide +kernel
theorem dX5_count_77 : decode cX5_count 77 = .ok (.getfield 33, 3) := by decide +kernel
theorem dX5_count_80 : decode cX5_count 80 = .ok (.invokevirtual 196, 3) := by decide +kernel
theorem dX5_count_83 : decode cX5_count 83 = .ok (.ireturn, 1) := by decide +kernel
theorem dX5_count_84 : decode cX5_count 84 = .ok (.aload_n 0, 1) := by decide +kernel
theorem dX5_count_85 : decode cX5_count 85 = .ok (.getfield 19, 3) := by decide +kernel
theorem dX5_count_88 : decode cX5_count 88 = .ok (.invokevirtual 199, 3) := by decide +kernel
theorem dX5_count_91 : decode cX5_count 91 = .ok (.ireturn, 1) := by decide +kernel
theorem dX5_count_92 : decode cX5_count 92 = .ok (.aload_n 0, 1) := by decide +kernel
theorem dX5_count_93 : decode cX5_count 93 = .ok (.getfield 40, 3) := by decide +kernel
theorem dX5_count_96 : decode cX5_count 96 = .ok (.invokevirtual 202, 3) := by decide +kernel
theorem dX5_count_99 : decode cX5_count 99 = .ok (.ireturn, 1) := by decide +kernel
theorem dX5_count_100 : decode cX5_count 100 = .ok (.bipush (-2), 2) := by decide +kernel
theorem dX5_count_102 : decode cX5_count 102 = .ok (.ireturn, 1) := by decide +kernel
set_option maxRecDepth 20000 in
theorem ggX5_digest_X5_count : GoodIn wsX5_digest wsX5_count := goodIn_r _ [11, 2, 3, 5, 4, 6, 12, 13, 14, 15, 16, 17, 18, 19, 20, 21, 22, 23, 24, 25, 26, 27, 28, 29, 30, 31, 32, 33, 34, 35, 36, 37, 38, 39, 40, 41, 42, 43, 44, 45, 46, 47, 48, 49, 50, 51, 52, 53, 54, 55, 123, 124, 125, 126, 127, 128, 129, 130, 131, 132, 133, 134, 135, 136, 137, 138, 139, 140, 141, 142, 143, 144, 145, 146, 147, 148, 149, 150] (by decide +kernel) (by decide +kernel)
set_option maxRecDepth 20000 in
theorem gX5_digest_X5_count : GoodIn wsX5_digest (wsV RX5 207 RX5 yX5_count wsX5_count) := goodIn_app (goodIn_of _ (by decide +kernel)) ggX5_digest_X5_count
set_option maxRecDepth 20000 in
theorem ggX5_digest_X5_mix : GoodIn wsX5_digest wsX5_mix := goodIn_r _ [58, 59] (by decide +kernel) (by decide +kernel)
set_option maxRecDepth 20000 in
theorem gX5_digest_X5_mix : GoodIn wsX5_digest (va_wsS RX5 210 yX5_mix wsX5_mix) := goodIn_app (goodIn_of _ (by decide +kernel)) ggX5_digest_X5_mix
set_option maxRecDepth 20000 in
theorem ggX5_digest_X2_mixWorks : GoodIn wsX5_digest wsX2_mixWorks := goodIn_r _ [63, 64, 65, 57, 10, 58, 59, 128, 129, 130, 131, 132] (by decide +kernel) (by decide +kernel)
set_option maxRecDepth 20000 in
theorem gX5_digest_X2_mixWorks : GoodIn wsX5_digest (wsV RX5 214 RX2 yX2_mixWorks wsX2_mixWorks) := goodIn_app (goodIn_of _ (by decide +kernel)) ggX5_digest_X2_mixWorks
set_option maxRecDepth 20000 in
theorem ggX5_digest_X2_thingCount : GoodIn wsX5_digest wsX2_thingCount := goodIn_r _ [16, 17, 128, 129, 130, 131, 132] (by decide +kernel) (by decide +kernel)
set_option maxRecDepth 20000 in
theorem gX5_digest_X2_thingCount : GoodIn wsX5_digest (wsV RX5 169 RX2 yX2_thingCount wsX2_thingCount) := goodIn_app (goodIn_of _ (by decide +kernel)) ggX5_digest_X2_thingCount
set_option maxRecDepth 20000 in
theorem ggX5_digest_X2_mixParts : GoodIn wsX5_digest wsX2_mixParts := goodIn_r _ [69, 70, 57, 10, 58, 59, 71, 72, 73, 15, 74, 75, 128, 129, 130, 131, 132] (by decide +kernel) (by decide +kernel)
set_option maxRecDepth 20000 in
theorem gX5_digest_X2_mixParts : GoodIn wsX5_digest (wsV RX5 218 RX2 yX2_mixParts wsX2_mixParts) := goodIn_app (goodIn_of _ (by decide +kernel)) ggX5_digest_X2_mixParts
set_option maxRecDepth 20000 in
theorem ggX5_digest_X4_holderOf : GoodIn wsX5_digest wsX4_holderOf := goodIn_r _ [79, 80, 133, 134, 135, 136, 137, 138, 139] (by decide +kernel) (by decide +kernel)
set_option maxRecDepth 20000 in
theorem gX5_digest_X4_holderOf : GoodIn wsX5_digest (wsV RX5 84 RX4 yX4_holderOf wsX4_holderOf) := goodIn_app (goodIn_of _ (by decide +kernel)) ggX5_digest_X4_holderOf
set_option maxRecDepth 20000 in
theorem ggX5_digest_X3_mixMarks : GoodIn wsX5_digest wsX3_mixMarks := goodIn_r _ [84, 85, 86, 57, 10, 58, 59, 144, 145, 146, 147, 148, 149] (by decide +kernel) (by decide +kernel)
set_option maxRecDepth 20000 in
theorem gX5_digest_X3_mixMarks : GoodIn wsX5_digest (wsV RX5 221 RX3 yX3_mixMarks wsX3_mixMarks) := goodIn_app (goodIn_of _ (by decide +kernel)) ggX5_digest_X3_mixMarks
set_option maxRecDepth 20000 in
theorem ggX5_digest_X4_mixSales : GoodIn wsX5_digest wsX4_mixSales := goodIn_r _ [90, 23, 32, 57, 10, 58, 59, 133, 134, 135, 136, 137, 138, 139] (by decide +kernel) (by decide +kernel)
set_option maxRecDepth 20000 in
theorem gX5_digest_X4_mixSales : GoodIn wsX5_digest (wsV RX5 224 RX4 yX4_mixSales wsX4_mixSales) := goodIn_app (goodIn_of _ (by decide +kernel)) ggX5_digest_X4_mixSales
set_option maxRecDepth 20000 in
theorem ggX5_digest_X0_mixLots : GoodIn wsX5_digest wsX0_mixLots := goodIn_r _ [94, 38, 95, 96, 97, 57, 10, 58, 59, 140, 141, 142, 143] (by decide +kernel) (by decide +kernel)
set_option maxRecDepth 20000 in
theorem gX5_digest_X0_mixLots : GoodIn wsX5_digest (wsV RX5 227 RX0 yX0_mixLots wsX0_mixLots) := goodIn_app (goodIn_of _ (by decide +kernel)) ggX5_digest_X0_mixLots
set_option maxRecDepth 20000 in
theorem ggX5_digest_X3_mixEntries : GoodIn wsX5_digest wsX3_mixEntries := goodIn_r _ [101, 44, 102, 57, 10, 58, 59, 144, 145, 146, 147, 148, 149] (by decide +kernel) (by decide +kernel)
set_option maxRecDepth 20000 in
theorem gX5_digest_X3_mixEntries : GoodIn wsX5_digest (wsV RX5 230 RX3 yX3_mixEntries wsX3_mixEntries) := goodIn_app (goodIn_of _ (by decide +kernel)) ggX5_digest_X3_mixEntries
set_option maxRecDepth 20000 in
theorem ggX5_digest_X4_gainOf : GoodIn wsX5_digest wsX4_gainOf := goodIn_r _ [106, 23, 107, 108, 109, 21, 110, 28, 29, 30, 31, 32, 133, 134, 135, 136, 137, 138, 139] (by decide +kernel) (by decide +kernel)
set_option maxRecDepth 20000 in
theorem gX5_digest_X4_gainOf : GoodIn wsX5_digest (wsV RX5 108 RX4 yX4_gainOf wsX4_gainOf) := goodIn_app (goodIn_of _ (by decide +kernel)) ggX5_digest_X4_gainOf
set_option maxRecDepth 20000 in
theorem ggX5_digest_X1_netOf : GoodIn wsX5_digest wsX1_netOf := goodIn_r _ [114, 115, 116, 117, 53, 118, 55, 119, 120, 121, 122, 150] (by decide +kernel) (by decide +kernel)
set_option maxRecDepth 20000 in
theorem gX5_digest_X1_netOf : GoodIn wsX5_digest (wsV RX5 184 RX1 yX1_netOf wsX1_netOf) := goodIn_app (goodIn_of _ (by decide +kernel)) ggX5_digest_X1_netOf
theorem dX5_digest_0 : decode cX5_digest 0 = .ok (.ldc2_w 205, 3) := by decide +kernel
theorem dX5_digest_3 : decode cX5_digest 3 = .ok (.lstore_n 1, 1) := by decide +kernel
theorem dX5_digest_4 : decode cX5_digest 4 = .ok (.iconst 0, 1) := by decide +kernel
theorem dX5_digest_5 : decode cX5_digest 5 = .ok (.istore_n 3, 1) := by decide +kernel
theorem dX5_digest_6 : decode cX5_digest 6 = .ok (.iload_n 3, 1) := by decide +kernel
theorem dX5_digest_7 : decode cX5_digest 7 = .ok (.bipush 7, 2) := by decide +kernel
theorem dX5_digest_9 : decode cX5_digest 9 = .ok (.if_icmp .ge 19, 3) := by decide +kernel
theorem dX5_digest_12 : decode cX5_digest 12 = .ok (.lload_n 1, 1) := by decide +kernel
theorem dX5_digest_13 : decode cX5_digest 13 = .ok (.aload_n 0, 1) := by decide +kernel
theorem dX5_digest_14 : decode cX5_digest 14 = .ok (.iload_n 3, 1) := by decide +kernel
theorem dX5_digest_15 : decode cX5_digest 15 = .ok (.invokevirtual 207, 3) := by decide +kernel
theorem dX5_digest_18 : decode cX5_digest 18 = .ok (.invokestatic 210, 3) := by decide +kernel
theorem dX5_digest_21 : decode cX5_digest 21 = .ok (.lstore_n 1, 1) := by decide +kernel
theorem dX5_digest_22 : decode cX5_digest 22 = .ok (.iinc 3 1, 3) := by decide +kernel
theorem dX5_digest_25 : decode cX5_digest 25 = .ok (.goto (-19), 3) := by decide +kernel
theorem dX5_digest_28 : decode cX5_digest 28 = .ok (.aload_n 0, 1) := by decide +kernel
theorem dX5_digest_29 : decode cX5_digest 29 = .ok (.getfield 12, 3) := by decide +kernel
theorem dX5_digest_32 : decode cX5_digest 32 = .ok (.lload_n 1, 1) := by decide +kernel
theorem dX5_digest_33 : decode cX5_digest 33 = .ok (.invokevirtual 214, 3) := by decide +kernel
theorem dX5_digest_36 : decode cX5_digest 36 = .ok (.lstore_n 1, 1) := by decide +kernel
theorem dX5_digest_37 : decode cX5_digest 37 = .ok (.iconst 0, 1) := by decide +kernel
theorem dX5_digest_38 : decode cX5_digest 38 = .ok (.istore_n 3, 1) := by decide +kernel
theorem dX5_digest_39 : decode cX5_digest 39 = .ok (.iload_n 3, 1) := by decide +kernel
theorem dX5_digest_40 : decode cX5_digest 40 = .ok (.aload_n 0, 1) := by decide +kernel
theorem dX5_digest_41 : decode cX5_digest 41 = .ok (.getfield 12, 3) := by decide +kernel
theorem dX5_digest_44 : decode cX5_digest 44 = .ok (.invokevirtual 169, 3) := by decide +kernel
theorem dX5_digest_47 : decode cX5_digest 47 = .ok (.if_icmp .ge 42, 3) := by decide +kernel
theorem dX5_digest_50 : decode cX5_digest 50 = .ok (.aload_n 0, 1) := by decide +kernel
theorem dX5_digest_51 : decode cX5_digest 51 = .ok (.getfield 12, 3) := by decide +kernel
theorem dX5_digest_54 : decode cX5_digest 54 = .ok (.lload_n 1, 1) := by decide +kernel
theorem dX5_digest_55 : decode cX5_digest 55 = .ok (.iload_n 3, 1) := by decide +kernel
theorem dX5_digest_56 : decode cX5_digest 56 = .ok (.invokevirtual 218, 3) := by decide +kernel
theorem dX5_digest_59 : decode cX5_digest 59 = .ok (.lstore_n 1, 1) := by decide +kernel
theorem dX5_digest_60 : decode cX5_digest 60 = .ok (.lload_n 1, 1) := by decide +kernel
theorem dX5_digest_61 : decode cX5_digest 61 = .ok (.aload_n 0, 1) := by decide +kernel
theorem dX5_digest_62 : decode cX5_digest 62 = .ok (.getfield 19, 3) := by decide +kernel
theorem dX5_digest_65 : decode cX5_digest 65 = .ok (.iload_n 3, 1) := by decide +kernel
theorem dX5_digest_66 : decode cX5_digest 66 = .ok (.invokevirtual 84, 3) := by decide +kernel
theorem dX5_digest_69 : decode cX5_digest 69 = .ok (.invokestatic 210, 3) := by decide +kernel
theorem dX5_digest_72 : decode cX5_digest 72 = .ok (.lstore_n 1, 1) := by decide +kernel
theorem dX5_digest_73 : decode cX5_digest 73 = .ok (.aload_n 0, 1) := by decide +kernel
theorem dX5_digest_74 : decode cX5_digest 74 = .ok (.getfield 33, 3) := by decide +kernel
theorem dX5_digest_77 : decode cX5_digest 77 = .ok (.lload_n 1, 1) := by decide +kernel
theorem dX5_digest_78 : decode cX5_digest 78 = .ok (.iload_n 3, 1) := by decide +kernel
theorem dX5_digest_79 : decode cX5_digest 79 = .ok (.invokevirtual 221, 3) := by decide +kernel
theorem dX5_digest_82 : decode cX5_digest 82 = .ok (.lstore_n 1, 1) := by decide +kernel
theorem dX5_digest_83 : decode cX5_digest 83 = .ok (.iinc 3 1, 3) := by decide +kernel
theorem dX5_digest_86 : decode cX5_digest 86 = .ok (.goto (-47), 3) := by decide +kernel
theorem dX5_digest_89 : decode cX5_digest 89 = .ok (.aload_n 0, 1) := by decide +kernel
theorem dX5_digest_90 : decode cX5_digest 90 = .ok (.getfield 19, 3) := by decide +kernel
theorem dX5_digest_93 : decode cX5_digest 93 = .ok (.lload_n 1, 1) := by decide +kernel
theorem dX5_digest_94 : decode cX5_digest 94 = .ok (.invokevirtual 224, 3) := by decide +kernel
theorem dX5_digest_97 : decode cX5_digest 97 = .ok (.lstore_n 1, 1) := by decide +kernel
theorem dX5_digest_98 : decode cX5_digest 98 = .ok (.aload_n 0, 1) := by decide +kernel
theorem dX5_digest_99 : decode cX5_digest 99 = .ok (.getfield 26, 3) := by decide +kernel
theorem dX5_digest_102 : decode cX5_digest 102 = .ok (.lload_n 1, 1) := by decide +kernel
theorem dX5_digest_103 : decode cX5_digest 103 = .ok (.invokevirtual 227, 3) := by decide +kernel
theorem dX5_digest_106 : decode cX5_digest 106 = .ok (.lstore_n 1, 1) := by decide +kernel
theorem dX5_digest_107 : decode cX5_digest 107 = .ok (.aload_n 0, 1) := by decide +kernel
theorem dX5_digest_108 : decode cX5_digest 108 = .ok (.getfield 33, 3) := by decide +kernel
theorem dX5_digest_111 : decode cX5_digest 111 = .ok (.lload_n 1, 1) := by decide +kernel
theorem dX5_digest_112 : decode cX5_digest 112 = .ok (.invokevirtual 230, 3) := by decide +kernel
theorem dX5_digest_115 : decode cX5_digest 115 = .ok (.lstore_n 1, 1) := by decide +kernel
theorem dX5_digest_116 : decode cX5_digest 116 = .ok (.iconst 0, 1) := by decide +kernel
theorem dX5_digest_117 : decode cX5_digest 117 = .ok (.istore_n 3, 1) := by decide +kernel
theorem dX5_digest_118 : decode cX5_digest 118 = .ok (.iload_n 3, 1) := by decide +kernel
theorem dX5_digest_119 : decode cX5_digest 119 = .ok (.bipush 8, 2) := by decide +kernel
theorem dX5_digest_121 : decode cX5_digest 121 = .ok (.if_icmp .ge 35, 3) := by decide +kernel
theorem dX5_digest_124 : decode cX5_digest 124 = .ok (.lload_n 1, 1) := by decide +kernel
theorem dX5_digest_125 : decode cX5_digest 125 = .ok (.aload_n 0, 1) := by decide +kernel
theorem dX5_digest_126 : decode cX5_digest 126 = .ok (.getfield 19, 3) := by decide +kernel
theorem dX5_digest_129 : decode cX5_digest 129 = .ok (.iload_n 3, 1) := by decide +kernel
theorem dX5_digest_130 : decode cX5_digest 130 = .ok (.invokevirtual 108, 3) := by decide +kernel
theorem dX5_digest_133 : decode cX5_digest 133 = .ok (.invokestatic 210, 3) := by decide +kernel
theorem dX5_digest_136 : decode cX5_digest 136 = .ok (.lstore_n 1, 1) := by decide +kernel
theorem dX5_digest_137 : decode cX5_digest 137 = .ok (.lload_n 1, 1) := by decide +kernel
theorem dX5_digest_138 : decode cX5_digest 138 = .ok (.aload_n 0, 1) := by decide +kernel
theorem dX5_digest_139 : decode cX5_digest 139 = .ok (.getfield 40, 3) := by decide +kernel
theorem dX5_digest_142 : decode cX5_digest 142 = .ok (.iload_n 3, 1) := by decide +kernel
theorem dX5_digest_143 : decode cX5_digest 143 = .ok (.invokevirtual 184, 3) := by decide +kernel
theorem dX5_digest_146 : decode cX5_digest 146 = .ok (.invokestatic 210, 3) := by decide +kernel
theorem dX5_digest_149 : decode cX5_digest 149 = .ok (.lstore_n 1, 1) := by decide +kernel
theorem dX5_digest_150 : decode cX5_digest 150 = .ok (.iinc 3 1, 3) := by decide +kernel
theorem dX5_digest_153 : decode cX5_digest 153 = .ok (.goto (-35), 3) := by decide +kernel
theorem dX5_digest_156 : decode cX5_digest 156 = .ok (.lload_n 1, 1) := by decide +kernel
theorem dX5_digest_157 : decode cX5_digest 157 = .ok (.lreturn, 1) := by decide +kernel
theorem dX5_mix_0 : decode cX5_mix 0 = .ok (.ldc2_w 233, 3) := by decide +kernel
theorem dX5_mix_3 : decode cX5_mix 3 = .ok (.lload_n 0, 1) := by decide +kernel
theorem dX5_mix_4 : decode cX5_mix 4 = .ok (.lmul, 1) := by decide +kernel
theorem dX5_mix_5 : decode cX5_mix 5 = .ok (.iload_n 2, 1) := by decide +kernel
theorem dX5_mix_6 : decode cX5_mix 6 = .ok (.i2l, 1) := by decide +kernel
theorem dX5_mix_7 : decode cX5_mix 7 = .ok (.ladd, 1) := by decide +kernel
theorem dX5_mix_8 : decode cX5_mix 8 = .ok (.lreturn, 1) := by decide +kernel
theorem dX5_within_0 : decode cX5_within 0 = .ok (.iload_n 1, 1) := by decide +kernel
theorem dX5_within_1 : decode cX5_within 1 = .ok (.iload_n 0, 1) := by decide +kernel
theorem dX5_within_2 : decode cX5_within 2 = .ok (.if_icmp .gt 12, 3) := by decide +kernel
theorem dX5_within_5 : decode cX5_within 5 = .ok (.iload_n 0, 1) := by decide +kernel
theorem dX5_within_6 : decode cX5_within 6 = .ok (.iload_n 2, 1) := by decide +kernel
theorem dX5_within_7 : decode cX5_within 7 = .ok (.if_icmp .gt 7, 3) := by decide +kernel
theorem dX5_within_10 : decode cX5_within 10 = .ok (.iconst 1, 1) := by decide +kernel
theorem dX5_within_11 : decode cX5_within 11 = .ok (.goto 4, 3) := by decide +kernel
theorem dX5_within_14 : decode cX5_within 14 = .ok (.iconst 0, 1) := by decide +kernel
theorem dX5_within_15 : decode cX5_within 15 = .ok (.ireturn, 1) := by decide +kernel
set_option maxRecDepth 20000 in
theorem ggX5_isDealer_X5_within : GoodIn wsX5_isDealer wsX5_within := goodIn_r _ [4] (by decide +kernel) (by decide +kernel)
set_option maxRecDepth 20000 in
theorem gX5_isDealer_X5_within : GoodIn wsX5_isDealer (va_wsS RX5 44 yX5_within wsX5_within) := goodIn_app (goodIn_of _ (by decide +kernel)) ggX5_isDealer_X5_within
theorem dX5_isDealer_0 : decode cX5_isDealer 0 = .ok (.iload_n 0, 1) := by decide +kernel
theorem dX5_isDealer_1 : decode cX5_isDealer 1 = .ok (.iconst 0, 1) := by decide +kernel
theorem dX5_isDealer_2 : decode cX5_isDealer 2 = .ok (.bipush 7, 2) := by decide +kernel
theorem dX5_isDealer_4 : decode cX5_isDealer 4 = .ok (.invokestatic 44, 3) := by decide +kernel
theorem dX5_isDealer_7 : decode cX5_isDealer 7 = .ok (.ireturn, 1) := by decide +kernel
set_option maxRecDepth 20000 in
theorem ggX5_areTwo_X5_isDealer : GoodIn wsX5_areTwo wsX5_isDealer := goodIn_r _ [4, 5, 6, 3, 7] (by decide +kernel) (by decide +kernel)
set_option maxRecDepth 20000 in
theorem gX5_areTwo_X5_isDealer : GoodIn wsX5_areTwo (va_wsS RX5 90 yX5_isDealer wsX5_isDealer) := goodIn_app (goodIn_of _ (by decide +kernel)) ggX5_areTwo_X5_isDealer
theorem dX5_areTwo_0 : decode cX5_areTwo 0 = .ok (.iload_n 0, 1) := by decide +kernel
theorem dX5_areTwo_1 : decode cX5_areTwo 1 = .ok (.invokestatic 90, 3) := by decide +kernel
theorem dX5_areTwo_4 : decode cX5_areTwo 4 = .ok (.ifCond .eq 19, 3) := by decide +kernel
theorem dX5_areTwo_7 : decode cX5_areTwo 7 = .ok (.iload_n 1, 1) := by decide +kernel
theorem dX5_areTwo_8 : decode cX5_areTwo 8 = .ok (.invokestatic 90, 3) := by decide +kernel
theorem dX5_areTwo_11 : decode cX5_areTwo 11 = .ok (.ifCond .eq 12, 3) := by decide +kernel
theorem dX5_areTwo_14 : decode cX5_areTwo 14 = .ok (.iload_n 0, 1) := by decide +kernel
theorem dX5_areTwo_15 : decode cX5_areTwo 15 = .ok (.iload_n 1, 1) := by decide +kernel
theorem dX5_areTwo_16 : decode cX5_areTwo 16 = .ok (.if_icmp .eq 7, 3) := by decide +kernel
theorem dX5_areTwo_19 : decode cX5_areTwo 19 = .ok (.iconst 1, 1) := by decide +kernel
theorem dX5_areTwo_20 : decode cX5_areTwo 20 = .ok (.goto 4, 3) := by decide +kernel
theorem dX5_areTwo_23 : decode cX5_areTwo 23 = .ok (.iconst 0, 1) := by decide +kernel
theorem dX5_areTwo_24 : decode cX5_areTwo 24 = .ok (.ireturn, 1) := by decide +kernel
set_option maxRecDepth 20000 in
theorem ggX5_mayHaveWon_X5_isDealer : GoodIn wsX5_mayHaveWon wsX5_isDealer := goodIn_r _ [4, 5, 6, 3, 7] (by decide +kernel) (by decide +kernel)
set_option maxRecDepth 20000 in
theorem gX5_mayHaveWon_X5_isDealer : GoodIn wsX5_mayHaveWon (va_wsS RX5 90 yX5_isDealer wsX5_isDealer) := goodIn_app (goodIn_of _ (by decide +kernel)) ggX5_mayHaveWon_X5_isDealer
theorem dX5_mayHaveWon_0 : decode cX5_mayHaveWon 0 = .ok (.iload_n 0, 1) := by decide +kernel
theorem dX5_mayHaveWon_1 : decode cX5_mayHaveWon 1 = .ok (.ifCond .ne 14, 3) := by decide +kernel
theorem dX5_mayHaveWon_4 : decode cX5_mayHaveWon 4 = .ok (.iload_n 1, 1) := by decide +kernel
theorem dX5_mayHaveWon_5 : decode cX5_mayHaveWon 5 = .ok (.iconst (-1), 1) := by decide +kernel
