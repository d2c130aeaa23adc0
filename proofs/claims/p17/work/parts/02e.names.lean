theorem dX4_come_8 : decode cX4_come 8 = .ok (.iadd, 1) := by decide +kernel
theorem dX4_come_9 : decode cX4_come 9 = .ok (.newarray .int, 2) := by decide +kernel
theorem dX4_come_11 : decode cX4_come 11 = .ok (.astore_n 2, 1) := by decide +kernel
theorem dX4_come_12 : decode cX4_come 12 = .ok (.iload_n 1, 1) := by decide +kernel
theorem dX4_come_13 : decode cX4_come 13 = .ok (.iconst 1, 1) := by decide +kernel
theorem dX4_come_14 : decode cX4_come 14 = .ok (.iadd, 1) := by decide +kernel
theorem dX4_come_15 : decode cX4_come 15 = .ok (.anewarray 13, 3) := by decide +kernel
theorem dX4_come_18 : decode cX4_come 18 = .ok (.astore_n 3, 1) := by decide +kernel
theorem dX4_come_19 : decode cX4_come 19 = .ok (.iconst 0, 1) := by decide +kernel
theorem dX4_come_20 : decode cX4_come 20 = .ok (.istore 4, 2) := by decide +kernel
theorem dX4_come_22 : decode cX4_come 22 = .ok (.iload 4, 2) := by decide +kernel
theorem dX4_come_24 : decode cX4_come 24 = .ok (.iload_n 1, 1) := by decide +kernel
theorem dX4_come_25 : decode cX4_come 25 = .ok (.if_icmp .ge 31, 3) := by decide +kernel
theorem dX4_come_28 : decode cX4_come 28 = .ok (.aload_n 2, 1) := by decide +kernel
theorem dX4_come_29 : decode cX4_come 29 = .ok (.iload 4, 2) := by decide +kernel
theorem dX4_come_31 : decode cX4_come 31 = .ok (.aload_n 0, 1) := by decide +kernel
theorem dX4_come_32 : decode cX4_come 32 = .ok (.getfield 7, 3) := by decide +kernel
theorem dX4_come_35 : decode cX4_come 35 = .ok (.iload 4, 2) := by decide +kernel
theorem dX4_come_37 : decode cX4_come 37 = .ok (.iaload, 1) := by decide +kernel
theorem dX4_come_38 : decode cX4_come 38 = .ok (.iastore, 1) := by decide +kernel
theorem dX4_come_39 : decode cX4_come 39 = .ok (.aload_n 3, 1) := by decide +kernel
theorem dX4_come_40 : decode cX4_come 40 = .ok (.iload 4, 2) := by decide +kernel
theorem dX4_come_42 : decode cX4_come 42 = .ok (.aload_n 0, 1) := by decide +kernel
theorem dX4_come_43 : decode cX4_come 43 = .ok (.getfield 14, 3) := by decide +kernel
theorem dX4_come_46 : decode cX4_come 46 = .ok (.iload 4, 2) := by decide +kernel
theorem dX4_come_48 : decode cX4_come 48 = .ok (.aaload, 1) := by decide +kernel
theorem dX4_come_49 : decode cX4_come 49 = .ok (.aastore, 1) := by decide +kernel
theorem dX4_come_50 : decode cX4_come 50 = .ok (.iinc 4 1, 3) := by decide +kernel
theorem dX4_come_53 : decode cX4_come 53 = .ok (.goto (-31), 3) := by decide +kernel
theorem dX4_come_56 : decode cX4_come 56 = .ok (.aload_n 2, 1) := by decide +kernel
theorem dX4_come_57 : decode cX4_come 57 = .ok (.iload_n 1, 1) := by decide +kernel
theorem dX4_come_58 : decode cX4_come 58 = .ok (.iload_n 1, 1) := by decide +kernel
theorem dX4_come_59 : decode cX4_come 59 = .ok (.iastore, 1) := by decide +kernel
theorem dX4_come_60 : decode cX4_come 60 = .ok (.aload_n 3, 1) := by decide +kernel
theorem dX4_come_61 : decode cX4_come 61 = .ok (.iload_n 1, 1) := by decide +kernel
theorem dX4_come_62 : decode cX4_come 62 = .ok (.iconst 0, 1) := by decide +kernel
theorem dX4_come_63 : decode cX4_come 63 = .ok (.newarray .int, 2) := by decide +kernel
theorem dX4_come_65 : decode cX4_come 65 = .ok (.aastore, 1) := by decide +kernel
theorem dX4_come_66 : decode cX4_come 66 = .ok (.aload_n 0, 1) := by decide +kernel
theorem dX4_come_67 : decode cX4_come 67 = .ok (.aload_n 2, 1) := by decide +kernel
theorem dX4_come_68 : decode cX4_come 68 = .ok (.putfield 7, 3) := by decide +kernel
theorem dX4_come_71 : decode cX4_come 71 = .ok (.aload_n 0, 1) := by decide +kernel
theorem dX4_come_72 : decode cX4_come 72 = .ok (.aload_n 3, 1) := by decide +kernel
theorem dX4_come_73 : decode cX4_come 73 = .ok (.putfield 14, 3) := by decide +kernel
theorem dX4_come_76 : decode cX4_come 76 = .ok (.return_, 1) := by decide +kernel
theorem dX4_find_0 : decode cX4_find 0 = .ok (.iconst 0, 1) := by decide +kernel
theorem dX4_find_1 : decode cX4_find 1 = .ok (.istore_n 2, 1) := by decide +kernel
theorem dX4_find_2 : decode cX4_find 2 = .ok (.iload_n 2, 1) := by decide +kernel
theorem dX4_find_3 : decode cX4_find 3 = .ok (.aload_n 0, 1) := by decide +kernel
theorem dX4_find_4 : decode cX4_find 4 = .ok (.arraylength, 1) := by decide +kernel
theorem dX4_find_5 : decode cX4_find 5 = .ok (.if_icmp .ge 18, 3) := by decide +kernel
theorem dX4_find_8 : decode cX4_find 8 = .ok (.aload_n 0, 1) := by decide +kernel
theorem dX4_find_9 : decode cX4_find 9 = .ok (.iload_n 2, 1) := by decide +kernel
theorem dX4_find_10 : decode cX4_find 10 = .ok (.iaload, 1) := by decide +kernel
theorem dX4_find_11 : decode cX4_find 11 = .ok (.iload_n 1, 1) := by decide +kernel
theorem dX4_find_12 : decode cX4_find 12 = .ok (.if_icmp .ne 5, 3) := by decide +kernel
theorem dX4_find_15 : decode cX4_find 15 = .ok (.iload_n 2, 1) := by decide +kernel
theorem dX4_find_16 : decode cX4_find 16 = .ok (.ireturn, 1) := by decide +kernel
theorem dX4_find_17 : decode cX4_find 17 = .ok (.iinc 2 1, 3) := by decide +kernel
theorem dX4_find_20 : decode cX4_find 20 = .ok (.goto (-18), 3) := by decide +kernel
theorem dX4_find_23 : decode cX4_find 23 = .ok (.iconst (-1), 1) := by decide +kernel
theorem dX4_find_24 : decode cX4_find 24 = .ok (.ireturn, 1) := by decide +kernel
theorem dX4_with_0 : decode cX4_with 0 = .ok (.aload_n 0, 1) := by decide +kernel
theorem dX4_with_1 : decode cX4_with 1 = .ok (.arraylength, 1) := by decide +kernel
theorem dX4_with_2 : decode cX4_with 2 = .ok (.iconst 1, 1) := by decide +kernel
theorem dX4_with_3 : decode cX4_with 3 = .ok (.iadd, 1) := by decide +kernel
theorem dX4_with_4 : decode cX4_with 4 = .ok (.newarray .int, 2) := by decide +kernel
theorem dX4_with_6 : decode cX4_with 6 = .ok (.astore_n 3, 1) := by decide +kernel
theorem dX4_with_7 : decode cX4_with 7 = .ok (.iconst 0, 1) := by decide +kernel
theorem dX4_with_8 : decode cX4_with 8 = .ok (.istore 4, 2) := by decide +kernel
theorem dX4_with_10 : decode cX4_with 10 = .ok (.iload 4, 2) := by decide +kernel
theorem dX4_with_12 : decode cX4_with 12 = .ok (.aload_n 3, 1) := by decide +kernel
theorem dX4_with_13 : decode cX4_with 13 = .ok (.arraylength, 1) := by decide +kernel
theorem dX4_with_14 : decode cX4_with 14 = .ok (.if_icmp .ge 42, 3) := by decide +kernel
theorem dX4_with_17 : decode cX4_with 17 = .ok (.aload_n 3, 1) := by decide +kernel
theorem dX4_with_18 : decode cX4_with 18 = .ok (.iload 4, 2) := by decide +kernel
theorem dX4_with_20 : decode cX4_with 20 = .ok (.iload 4, 2) := by decide +kernel
theorem dX4_with_22 : decode cX4_with 22 = .ok (.iload_n 1, 1) := by decide +kernel
theorem dX4_with_23 : decode cX4_with 23 = .ok (.if_icmp .ge 10, 3) := by decide +kernel
theorem dX4_with_26 : decode cX4_with 26 = .ok (.aload_n 0, 1) := by decide +kernel
theorem dX4_with_27 : decode cX4_with 27 = .ok (.iload 4, 2) := by decide +kernel
theorem dX4_with_29 : decode cX4_with 29 = .ok (.iaload, 1) := by decide +kernel
theorem dX4_with_30 : decode cX4_with 30 = .ok (.goto 19, 3) := by decide +kernel
theorem dX4_with_33 : decode cX4_with 33 = .ok (.iload 4, 2) := by decide +kernel
theorem dX4_with_35 : decode cX4_with 35 = .ok (.iload_n 1, 1) := by decide +kernel
theorem dX4_with_36 : decode cX4_with 36 = .ok (.if_icmp .ne 7, 3) := by decide +kernel
theorem dX4_with_39 : decode cX4_with 39 = .ok (.iload_n 2, 1) := by decide +kernel
theorem dX4_with_40 : decode cX4_with 40 = .ok (.goto 9, 3) := by decide +kernel
theorem dX4_with_43 : decode cX4_with 43 = .ok (.aload_n 0, 1) := by decide +kernel
theorem dX4_with_44 : decode cX4_with 44 = .ok (.iload 4, 2) := by decide +kernel
theorem dX4_with_46 : decode cX4_with 46 = .ok (.iconst 1, 1) := by decide +kernel
theorem dX4_with_47 : decode cX4_with 47 = .ok (.isub, 1) := by decide +kernel
theorem dX4_with_48 : decode cX4_with 48 = .ok (.iaload, 1) := by decide +kernel
theorem dX4_with_49 : decode cX4_with 49 = .ok (.iastore, 1) := by decide +kernel
theorem dX4_with_50 : decode cX4_with 50 = .ok (.iinc 4 1, 3) := by decide +kernel
theorem dX4_with_53 : decode cX4_with 53 = .ok (.goto (-43), 3) := by decide +kernel
theorem dX4_with_56 : decode cX4_with 56 = .ok (.aload_n 3, 1) := by decide +kernel
theorem dX4_with_57 : decode cX4_with 57 = .ok (.areturn, 1) := by decide +kernel
theorem dX4_without_0 : decode cX4_without 0 = .ok (.aload_n 0, 1) := by decide +kernel
theorem dX4_without_1 : decode cX4_without 1 = .ok (.arraylength, 1) := by decide +kernel
theorem dX4_without_2 : decode cX4_without 2 = .ok (.iconst 1, 1) := by decide +kernel
theorem dX4_without_3 : decode cX4_without 3 = .ok (.isub, 1) := by decide +kernel
theorem dX4_without_4 : decode cX4_without 4 = .ok (.newarray .int, 2) := by decide +kernel
theorem dX4_without_6 : decode cX4_without 6 = .ok (.astore_n 2, 1) := by decide +kernel
theorem dX4_without_7 : decode cX4_without 7 = .ok (.iconst 0, 1) := by decide +kernel
theorem dX4_without_8 : decode cX4_without 8 = .ok (.istore_n 3, 1) := by decide +kernel
theorem dX4_without_9 : decode cX4_without 9 = .ok (.iload_n 3, 1) := by decide +kernel
theorem dX4_without_10 : decode cX4_without 10 = .ok (.aload_n 2, 1) := by decide +kernel
theorem dX4_without_11 : decode cX4_without 11 = .ok (.arraylength, 1) := by decide +kernel
theorem dX4_without_12 : decode cX4_without 12 = .ok (.if_icmp .ge 26, 3) := by decide +kernel
theorem dX4_without_15 : decode cX4_without 15 = .ok (.aload_n 2, 1) := by decide +kernel
theorem dX4_without_16 : decode cX4_without 16 = .ok (.iload_n 3, 1) := by decide +kernel
theorem dX4_without_17 : decode cX4_without 17 = .ok (.aload_n 0, 1) := by decide +kernel
theorem dX4_without_18 : decode cX4_without 18 = .ok (.iload_n 3, 1) := by decide +kernel
theorem dX4_without_19 : decode cX4_without 19 = .ok (.iload_n 1, 1) := by decide +kernel
theorem dX4_without_20 : decode cX4_without 20 = .ok (.if_icmp .ge 7, 3) := by decide +kernel
theorem dX4_without_23 : decode cX4_without 23 = .ok (.iload_n 3, 1) := by decide +kernel
theorem dX4_without_24 : decode cX4_without 24 = .ok (.goto 6, 3) := by decide +kernel
theorem dX4_without_27 : decode cX4_without 27 = .ok (.iload_n 3, 1) := by decide +kernel
theorem dX4_without_28 : decode cX4_without 28 = .ok (.iconst 1, 1) := by decide +kernel
theorem dX4_without_29 : decode cX4_without 29 = .ok (.iadd, 1) := by decide +kernel
theorem dX4_without_30 : decode cX4_without 30 = .ok (.iaload, 1) := by decide +kernel
theorem dX4_without_31 : decode cX4_without 31 = .ok (.iastore, 1) := by decide +kernel
theorem dX4_without_32 : decode cX4_without 32 = .ok (.iinc 3 1, 3) := by decide +kernel
theorem dX4_without_35 : decode cX4_without 35 = .ok (.goto (-26), 3) := by decide +kernel
theorem dX4_without_38 : decode cX4_without 38 = .ok (.aload_n 2, 1) := by decide +kernel
theorem dX4_without_39 : decode cX4_without 39 = .ok (.areturn, 1) := by decide +kernel
set_option maxRecDepth 20000 in
theorem ggX4_trade_X4_find : GoodIn wsX4_trade wsX4_find := goodIn_r _ [13] (by decide +kernel) (by decide +kernel)
set_option maxRecDepth 20000 in
theorem gX4_trade_X4_find : GoodIn wsX4_trade (va_wsS RX4 31 yX4_find wsX4_find) := goodIn_app (goodIn_of _ (by decide +kernel)) ggX4_trade_X4_find
theorem dX4_trade_0 : decode cX4_trade 0 = .ok (.aload_n 0, 1) := by decide +kernel
theorem dX4_trade_1 : decode cX4_trade 1 = .ok (.getfield 7, 3) := by decide +kernel
theorem dX4_trade_4 : decode cX4_trade 4 = .ok (.arraylength, 1) := by decide +kernel
theorem dX4_trade_5 : decode cX4_trade 5 = .ok (.istore 4, 2) := by decide +kernel
theorem dX4_trade_7 : decode cX4_trade 7 = .ok (.aload_n 0, 1) := by decide +kernel
theorem dX4_trade_8 : decode cX4_trade 8 = .ok (.iload 4, 2) := by decide +kernel
theorem dX4_trade_10 : decode cX4_trade 10 = .ok (.newarray .int, 2) := by decide +kernel
theorem dX4_trade_12 : decode cX4_trade 12 = .ok (.putfield 18, 3) := by decide +kernel
theorem dX4_trade_15 : decode cX4_trade 15 = .ok (.aload_n 0, 1) := by decide +kernel
theorem dX4_trade_16 : decode cX4_trade 16 = .ok (.iload 4, 2) := by decide +kernel
theorem dX4_trade_18 : decode cX4_trade 18 = .ok (.newarray .int, 2) := by decide +kernel
theorem dX4_trade_20 : decode cX4_trade 20 = .ok (.putfield 21, 3) := by decide +kernel
theorem dX4_trade_23 : decode cX4_trade 23 = .ok (.aload_n 0, 1) := by decide +kernel
theorem dX4_trade_24 : decode cX4_trade 24 = .ok (.iload 4, 2) := by decide +kernel
theorem dX4_trade_26 : decode cX4_trade 26 = .ok (.newarray .int, 2) := by decide +kernel
theorem dX4_trade_28 : decode cX4_trade 28 = .ok (.putfield 24, 3) := by decide +kernel
theorem dX4_trade_31 : decode cX4_trade 31 = .ok (.aload_n 0, 1) := by decide +kernel
theorem dX4_trade_32 : decode cX4_trade 32 = .ok (.iload 4, 2) := by decide +kernel
theorem dX4_trade_34 : decode cX4_trade 34 = .ok (.iload 4, 2) := by decide +kernel
theorem dX4_trade_36 : decode cX4_trade 36 = .ok (.multianewarray 27 2, 4) := by decide +kernel
theorem dX4_trade_40 : decode cX4_trade 40 = .ok (.putfield 28, 3) := by decide +kernel
theorem dX4_trade_43 : decode cX4_trade 43 = .ok (.iload 4, 2) := by decide +kernel
theorem dX4_trade_45 : decode cX4_trade 45 = .ok (.newarray .boolean, 2) := by decide +kernel
theorem dX4_trade_47 : decode cX4_trade 47 = .ok (.astore 5, 2) := by decide +kernel
theorem dX4_trade_49 : decode cX4_trade 49 = .ok (.iload 4, 2) := by decide +kernel
theorem dX4_trade_51 : decode cX4_trade 51 = .ok (.istore 6, 2) := by decide +kernel
theorem dX4_trade_53 : decode cX4_trade 53 = .ok (.iload_n 1, 1) := by decide +kernel
theorem dX4_trade_54 : decode cX4_trade 54 = .ok (.ifCond .lt 11, 3) := by decide +kernel
theorem dX4_trade_57 : decode cX4_trade 57 = .ok (.aload 5, 2) := by decide +kernel
theorem dX4_trade_59 : decode cX4_trade 59 = .ok (.iload_n 1, 1) := by decide +kernel
theorem dX4_trade_60 : decode cX4_trade 60 = .ok (.iconst 1, 1) := by decide +kernel
theorem dX4_trade_61 : decode cX4_trade 61 = .ok (.bastore, 1) := by decide +kernel
theorem dX4_trade_62 : decode cX4_trade 62 = .ok (.iinc 6 (-1), 3) := by decide +kernel
theorem dX4_trade_65 : decode cX4_trade 65 = .ok (.iconst 0, 1) := by decide +kernel
theorem dX4_trade_66 : decode cX4_trade 66 = .ok (.istore 7, 2) := by decide +kernel
theorem dX4_trade_68 : decode cX4_trade 68 = .ok (.iload 7, 2) := by decide +kernel
theorem dX4_trade_70 : decode cX4_trade 70 = .ok (.iload 4, 2) := by decide +kernel
theorem dX4_trade_72 : decode cX4_trade 72 = .ok (.if_icmp .ge 36, 3) := by decide +kernel
theorem dX4_trade_75 : decode cX4_trade 75 = .ok (.iconst 0, 1) := by decide +kernel
theorem dX4_trade_76 : decode cX4_trade 76 = .ok (.istore 8, 2) := by decide +kernel
theorem dX4_trade_78 : decode cX4_trade 78 = .ok (.iload 8, 2) := by decide +kernel
theorem dX4_trade_80 : decode cX4_trade 80 = .ok (.iload 4, 2) := by decide +kernel
theorem dX4_trade_82 : decode cX4_trade 82 = .ok (.if_icmp .ge 20, 3) := by decide +kernel
theorem dX4_trade_85 : decode cX4_trade 85 = .ok (.aload_n 0, 1) := by decide +kernel
theorem dX4_trade_86 : decode cX4_trade 86 = .ok (.getfield 28, 3) := by decide +kernel
theorem dX4_trade_89 : decode cX4_trade 89 = .ok (.iload 7, 2) := by decide +kernel
theorem dX4_trade_91 : decode cX4_trade 91 = .ok (.aaload, 1) := by decide +kernel
theorem dX4_trade_92 : decode cX4_trade 92 = .ok (.iload 8, 2) := by decide +kernel
theorem dX4_trade_94 : decode cX4_trade 94 = .ok (.iconst (-1), 1) := by decide +kernel
theorem dX4_trade_95 : decode cX4_trade 95 = .ok (.iastore, 1) := by decide +kernel
theorem dX4_trade_96 : decode cX4_trade 96 = .ok (.iinc 8 1, 3) := by decide +kernel
theorem dX4_trade_99 : decode cX4_trade 99 = .ok (.goto (-21), 3) := by decide +kernel
theorem dX4_trade_102 : decode cX4_trade 102 = .ok (.iinc 7 1, 3) := by decide +kernel
theorem dX4_trade_105 : decode cX4_trade 105 = .ok (.goto (-37), 3) := by decide +kernel
theorem dX4_trade_108 : decode cX4_trade 108 = .ok (.iconst 0, 1) := by decide +kernel
theorem dX4_trade_109 : decode cX4_trade 109 = .ok (.istore 7, 2) := by decide +kernel
theorem dX4_trade_111 : decode cX4_trade 111 = .ok (.iload 6, 2) := by decide +kernel
theorem dX4_trade_113 : decode cX4_trade 113 = .ok (.ifCond .le 269, 3) := by decide +kernel
theorem dX4_trade_116 : decode cX4_trade 116 = .ok (.iload 4, 2) := by decide +kernel
theorem dX4_trade_118 : decode cX4_trade 118 = .ok (.newarray .int, 2) := by decide +kernel
theorem dX4_trade_120 : decode cX4_trade 120 = .ok (.astore 8, 2) := by decide +kernel
theorem dX4_trade_122 : decode cX4_trade 122 = .ok (.iconst 0, 1) := by decide +kernel
theorem dX4_trade_123 : decode cX4_trade 123 = .ok (.istore 9, 2) := by decide +kernel
theorem dX4_trade_125 : decode cX4_trade 125 = .ok (.iload 9, 2) := by decide +kernel
theorem dX4_trade_127 : decode cX4_trade 127 = .ok (.iload 4, 2) := by decide +kernel
theorem dX4_trade_129 : decode cX4_trade 129 = .ok (.if_icmp .ge 128, 3) := by decide +kernel
theorem dX4_trade_132 : decode cX4_trade 132 = .ok (.aload 5, 2) := by decide +kernel
theorem dX4_trade_134 : decode cX4_trade 134 = .ok (.iload 9, 2) := by decide +kernel
theorem dX4_trade_136 : decode cX4_trade 136 = .ok (.baload, 1) := by decide +kernel
theorem dX4_trade_137 : decode cX4_trade 137 = .ok (.ifCond .eq 6, 3) := by decide +kernel
theorem dX4_trade_140 : decode cX4_trade 140 = .ok (.goto 111, 3) := by decide +kernel
theorem dX4_trade_143 : decode cX4_trade 143 = .ok (.aload 8, 2) := by decide +kernel
theorem dX4_trade_145 : decode cX4_trade 145 = .ok (.iload 9, 2) := by decide +kernel
theorem dX4_trade_147 : decode cX4_trade 147 = .ok (.iload 9, 2) := by decide +kernel
theorem dX4_trade_149 : decode cX4_trade 149 = .ok (.iastore, 1) := by decide +kernel
theorem dX4_trade_150 : decode cX4_trade 150 = .ok (.iload 9, 2) := by decide +kernel
theorem dX4_trade_152 : decode cX4_trade 152 = .ok (.iload_n 2, 1) := by decide +kernel
theorem dX4_trade_153 : decode cX4_trade 153 = .ok (.if_icmp .ne 7, 3) := by decide +kernel
theorem dX4_trade_156 : decode cX4_trade 156 = .ok (.aload_n 3, 1) := by decide +kernel
theorem dX4_trade_157 : decode cX4_trade 157 = .ok (.goto 10, 3) := by decide +kernel
theorem dX4_trade_160 : decode cX4_trade 160 = .ok (.aload_n 0, 1) := by decide +kernel
theorem dX4_trade_161 : decode cX4_trade 161 = .ok (.getfield 14, 3) := by decide +kernel
theorem dX4_trade_164 : decode cX4_trade 164 = .ok (.iload 9, 2) := by decide +kernel
theorem dX4_trade_166 : decode cX4_trade 166 = .ok (.aaload, 1) := by decide +kernel
theorem dX4_trade_167 : decode cX4_trade 167 = .ok (.astore 10, 2) := by decide +kernel
theorem dX4_trade_169 : decode cX4_trade 169 = .ok (.aload 10, 2) := by decide +kernel
theorem dX4_trade_171 : decode cX4_trade 171 = .ok (.arraylength, 1) := by decide +kernel
theorem dX4_trade_172 : decode cX4_trade 172 = .ok (.istore 11, 2) := by decide +kernel
theorem dX4_trade_174 : decode cX4_trade 174 = .ok (.iconst 0, 1) := by decide +kernel
theorem dX4_trade_175 : decode cX4_trade 175 = .ok (.istore 12, 2) := by decide +kernel
theorem dX4_trade_177 : decode cX4_trade 177 = .ok (.iload 12, 2) := by decide +kernel
theorem dX4_trade_179 : decode cX4_trade 179 = .ok (.iload 11, 2) := by decide +kernel
theorem dX4_trade_181 : decode cX4_trade 181 = .ok (.if_icmp .ge 55, 3) := by decide +kernel
theorem dX4_trade_184 : decode cX4_trade 184 = .ok (.aload 10, 2) := by decide +kernel
theorem dX4_trade_186 : decode cX4_trade 186 = .ok (.iload 12, 2) := by decide +kernel
theorem dX4_trade_188 : decode cX4_trade 188 = .ok (.iaload, 1) := by decide +kernel
theorem dX4_trade_189 : decode cX4_trade 189 = .ok (.istore 13, 2) := by decide +kernel
theorem dX4_trade_191 : decode cX4_trade 191 = .ok (.aload_n 0, 1) := by decide +kernel
theorem dX4_trade_192 : decode cX4_trade 192 = .ok (.getfield 7, 3) := by decide +kernel
theorem dX4_trade_195 : decode cX4_trade 195 = .ok (.iload 13, 2) := by decide +kernel
theorem dX4_trade_197 : decode cX4_trade 197 = .ok (.invokestatic 31, 3) := by decide +kernel
theorem dX4_trade_200 : decode cX4_trade 200 = .ok (.istore 14, 2) := by decide +kernel
theorem dX4_trade_202 : decode cX4_trade 202 = .ok (.aload 5, 2) := by decide +kernel
theorem dX4_trade_204 : decode cX4_trade 204 = .ok (.iload 14, 2) := by decide +kernel
theorem dX4_trade_206 : decode cX4_trade 206 = .ok (.baload, 1) := by decide +kernel
theorem dX4_trade_207 : decode cX4_trade 207 = .ok (.ifCond .ne 23, 3) := by decide +kernel
theorem dX4_trade_210 : decode cX4_trade 210 = .ok (.aload 8, 2) := by decide +kernel
theorem dX4_trade_212 : decode cX4_trade 212 = .ok (.iload 9, 2) := by decide +kernel
theorem dX4_trade_214 : decode cX4_trade 214 = .ok (.iaload, 1) := by decide +kernel
theorem dX4_trade_215 : decode cX4_trade 215 = .ok (.iload 9, 2) := by decide +kernel
theorem dX4_trade_217 : decode cX4_trade 217 = .ok (.if_icmp .eq 6, 3) := by decide +kernel
theorem dX4_trade_220 : decode cX4_trade 220 = .ok (.goto 10, 3) := by decide +kernel
theorem dX4_trade_223 : decode cX4_trade 223 = .ok (.aload 8, 2) := by decide +kernel
theorem dX4_trade_225 : decode cX4_trade 225 = .ok (.iload 9, 2) := by decide +kernel
theorem dX4_trade_227 : decode cX4_trade 227 = .ok (.iload 14, 2) := by decide +kernel
theorem dX4_trade_229 : decode cX4_trade 229 = .ok (.iastore, 1) := by decide +kernel
theorem dX4_trade_230 : decode cX4_trade 230 = .ok (.iinc 12 1, 3) := by decide +kernel
theorem dX4_trade_233 : decode cX4_trade 233 = .ok (.goto (-56), 3) := by decide +kernel
theorem dX4_trade_236 : decode cX4_trade 236 = .ok (.aload_n 0, 1) := by decide +kernel
theorem dX4_trade_237 : decode cX4_trade 237 = .ok (.getfield 28, 3) := by decide +kernel
theorem dX4_trade_240 : decode cX4_trade 240 = .ok (.iload 9, 2) := by decide +kernel
theorem dX4_trade_242 : decode cX4_trade 242 = .ok (.aaload, 1) := by decide +kernel
theorem dX4_trade_243 : decode cX4_trade 243 = .ok (.iload 7, 2) := by decide +kernel
theorem dX4_trade_245 : decode cX4_trade 245 = .ok (.aload 8, 2) := by decide +kernel
theorem dX4_trade_247 : decode cX4_trade 247 = .ok (.iload 9, 2) := by decide +kernel
theorem dX4_trade_249 : decode cX4_trade 249 = .ok (.iaload, 1) := by decide +kernel
theorem dX4_trade_250 : decode cX4_trade 250 = .ok (.iastore, 1) := by decide +kernel
theorem dX4_trade_251 : decode cX4_trade 251 = .ok (.iinc 9 1, 3) := by decide +kernel
theorem dX4_trade_254 : decode cX4_trade 254 = .ok (.goto (-129), 3) := by decide +kernel
theorem dX4_trade_257 : decode cX4_trade 257 = .ok (.iconst 0, 1) := by decide +kernel
theorem dX4_trade_258 : decode cX4_trade 258 = .ok (.istore 9, 2) := by decide +kernel
theorem dX4_trade_260 : decode cX4_trade 260 = .ok (.iload 9, 2) := by decide +kernel
theorem dX4_trade_262 : decode cX4_trade 262 = .ok (.iload 4, 2) := by decide +kernel
theorem dX4_trade_264 : decode cX4_trade 264 = .ok (.if_icmp .ge 112, 3) := by decide +kernel
theorem dX4_trade_267 : decode cX4_trade 267 = .ok (.aload_n 0, 1) := by decide +kernel
theorem dX4_trade_268 : decode cX4_trade 268 = .ok (.getfield 28, 3) := by decide +kernel
theorem dX4_trade_271 : decode cX4_trade 271 = .ok (.iload 9, 2) := by decide +kernel
theorem dX4_trade_273 : decode cX4_trade 273 = .ok (.aaload, 1) := by decide +kernel
theorem dX4_trade_274 : decode cX4_trade 274 = .ok (.iload 7, 2) := by decide +kernel
theorem dX4_trade_276 : decode cX4_trade 276 = .ok (.iaload, 1) := by decide +kernel
theorem dX4_trade_277 : decode cX4_trade 277 = .ok (.ifCond .ge 6, 3) := by decide +kernel
theorem dX4_trade_280 : decode cX4_trade 280 = .ok (.goto 90, 3) := by decide +kernel
theorem dX4_trade_283 : decode cX4_trade 283 = .ok (.iconst 0, 1) := by decide +kernel
theorem dX4_trade_284 : decode cX4_trade 284 = .ok (.istore 10, 2) := by decide +kernel
theorem dX4_trade_286 : decode cX4_trade 286 = .ok (.iload 9, 2) := by decide +kernel
theorem dX4_trade_288 : decode cX4_trade 288 = .ok (.istore 11, 2) := by decide +kernel
theorem dX4_trade_290 : decode cX4_trade 290 = .ok (.aload 8, 2) := by decide +kernel
theorem dX4_trade_292 : decode cX4_trade 292 = .ok (.iload 11, 2) := by decide +kernel
theorem dX4_trade_294 : decode cX4_trade 294 = .ok (.iaload, 1) := by decide +kernel
theorem dX4_trade_295 : decode cX4_trade 295 = .ok (.istore 11, 2) := by decide +kernel
theorem dX4_trade_297 : decode cX4_trade 297 = .ok (.iinc 10 1, 3) := by decide +kernel
theorem dX4_trade_300 : decode cX4_trade 300 = .ok (.iload 11, 2) := by decide +kernel
theorem dX4_trade_302 : decode cX4_trade 302 = .ok (.iload 9, 2) := by decide +kernel
theorem dX4_trade_304 : decode cX4_trade 304 = .ok (.if_icmp .eq 10, 3) := by decide +kernel
theorem dX4_trade_307 : decode cX4_trade 307 = .ok (.iload 10, 2) := by decide +kernel
theorem dX4_trade_309 : decode cX4_trade 309 = .ok (.iload 4, 2) := by decide +kernel
theorem dX4_trade_311 : decode cX4_trade 311 = .ok (.if_icmp .lt (-21), 3) := by decide +kernel
theorem dX4_trade_314 : decode cX4_trade 314 = .ok (.iload 11, 2) := by decide +kernel
theorem dX4_trade_316 : decode cX4_trade 316 = .ok (.iload 9, 2) := by decide +kernel
theorem dX4_trade_318 : decode cX4_trade 318 = .ok (.if_icmp .eq 6, 3) := by decide +kernel
theorem dX4_trade_321 : decode cX4_trade 321 = .ok (.goto 49, 3) := by decide +kernel
theorem dX4_trade_324 : decode cX4_trade 324 = .ok (.aload_n 0, 1) := by decide +kernel
theorem dX4_trade_325 : decode cX4_trade 325 = .ok (.getfield 18, 3) := by decide +kernel
theorem dX4_trade_328 : decode cX4_trade 328 = .ok (.iload 9, 2) := by decide +kernel
theorem dX4_trade_330 : decode cX4_trade 330 = .ok (.aload_n 0, 1) := by decide +kernel
theorem dX4_trade_331 : decode cX4_trade 331 = .ok (.getfield 7, 3) := by decide +kernel
theorem dX4_trade_334 : decode cX4_trade 334 = .ok (.aload 8, 2) := by decide +kernel
theorem dX4_trade_336 : decode cX4_trade 336 = .ok (.iload 9, 2) := by decide +kernel
theorem dX4_trade_338 : decode cX4_trade 338 = .ok (.iaload, 1) := by decide +kernel
theorem dX4_trade_339 : decode cX4_trade 339 = .ok (.iaload, 1) := by decide +kernel
theorem dX4_trade_340 : decode cX4_trade 340 = .ok (.iastore, 1) := by decide +kernel
theorem dX4_trade_341 : decode cX4_trade 341 = .ok (.aload_n 0, 1) := by decide +kernel
theorem dX4_trade_342 : decode cX4_trade 342 = .ok (.getfield 21, 3) := by decide +kernel
theorem dX4_trade_345 : decode cX4_trade 345 = .ok (.iload 9, 2) := by decide +kernel
theorem dX4_trade_347 : decode cX4_trade 347 = .ok (.iload 7, 2) := by decide +kernel
theorem dX4_trade_349 : decode cX4_trade 349 = .ok (.iconst 1, 1) := by decide +kernel
theorem dX4_trade_350 : decode cX4_trade 350 = .ok (.iadd, 1) := by decide +kernel
theorem dX4_trade_351 : decode cX4_trade 351 = .ok (.iastore, 1) := by decide +kernel
theorem dX4_trade_352 : decode cX4_trade 352 = .ok (.aload_n 0, 1) := by decide +kernel
theorem dX4_trade_353 : decode cX4_trade 353 = .ok (.getfield 24, 3) := by decide +kernel
theorem dX4_trade_356 : decode cX4_trade 356 = .ok (.iload 9, 2) := by decide +kernel
theorem dX4_trade_358 : decode cX4_trade 358 = .ok (.iload 10, 2) := by decide +kernel
theorem dX4_trade_360 : decode cX4_trade 360 = .ok (.iastore, 1) := by decide +kernel
theorem dX4_trade_361 : decode cX4_trade 361 = .ok (.aload 5, 2) := by decide +kernel
theorem dX4_trade_363 : decode cX4_trade 363 = .ok (.iload 9, 2) := by decide +kernel
theorem dX4_trade_365 : decode cX4_trade 365 = .ok (.iconst 1, 1) := by decide +kernel
theorem dX4_trade_366 : decode cX4_trade 366 = .ok (.bastore, 1) := by decide +kernel
theorem dX4_trade_367 : decode cX4_trade 367 = .ok (.iinc 6 (-1), 3) := by decide +kernel
theorem dX4_trade_370 : decode cX4_trade 370 = .ok (.iinc 9 1, 3) := by decide +kernel
theorem dX4_trade_373 : decode cX4_trade 373 = .ok (.goto (-113), 3) := by decide +kernel
theorem dX4_trade_376 : decode cX4_trade 376 = .ok (.iinc 7 1, 3) := by decide +kernel
theorem dX4_trade_379 : decode cX4_trade 379 = .ok (.goto (-268), 3) := by decide +kernel
theorem dX4_trade_382 : decode cX4_trade 382 = .ok (.aload_n 0, 1) := by decide +kernel
theorem dX4_trade_383 : decode cX4_trade 383 = .ok (.areturn, 1) := by decide +kernel
set_option maxRecDepth 20000 in
theorem ggX4_rank_X4_find : GoodIn wsX4_rank wsX4_find := goodIn_r _ [6] (by decide +kernel) (by decide +kernel)
set_option maxRecDepth 20000 in
theorem gX4_rank_X4_find : GoodIn wsX4_rank (va_wsS RX4 31 yX4_find wsX4_find) := goodIn_app (goodIn_of _ (by decide +kernel)) ggX4_rank_X4_find
theorem dX4_rank_0 : decode cX4_rank 0 = .ok (.aload_n 0, 1) := by decide +kernel
theorem dX4_rank_1 : decode cX4_rank 1 = .ok (.getfield 7, 3) := by decide +kernel
theorem dX4_rank_4 : decode cX4_rank 4 = .ok (.iload_n 1, 1) := by decide +kernel
theorem dX4_rank_5 : decode cX4_rank 5 = .ok (.iaload, 1) := by decide +kernel
theorem dX4_rank_6 : decode cX4_rank 6 = .ok (.iload_n 2, 1) := by decide +kernel
theorem dX4_rank_7 : decode cX4_rank 7 = .ok (.if_icmp .ne 13, 3) := by decide +kernel
theorem dX4_rank_10 : decode cX4_rank 10 = .ok (.aload_n 0, 1) := by decide +kernel
theorem dX4_rank_11 : decode cX4_rank 11 = .ok (.getfield 14, 3) := by decide +kernel
theorem dX4_rank_14 : decode cX4_rank 14 = .ok (.iload_n 1, 1) := by decide +kernel
theorem dX4_rank_15 : decode cX4_rank 15 = .ok (.aaload, 1) := by decide +kernel
theorem dX4_rank_16 : decode cX4_rank 16 = .ok (.arraylength, 1) := by decide +kernel
theorem dX4_rank_17 : decode cX4_rank 17 = .ok (.goto 13, 3) := by decide +kernel
theorem dX4_rank_20 : decode cX4_rank 20 = .ok (.aload_n 0, 1) := by decide +kernel
theorem dX4_rank_21 : decode cX4_rank 21 = .ok (.getfield 14, 3) := by decide +kernel
theorem dX4_rank_24 : decode cX4_rank 24 = .ok (.iload_n 1, 1) := by decide +kernel
theorem dX4_rank_25 : decode cX4_rank 25 = .ok (.aaload, 1) := by decide +kernel
theorem dX4_rank_26 : decode cX4_rank 26 = .ok (.iload_n 2, 1) := by decide +kernel
theorem dX4_rank_27 : decode cX4_rank 27 = .ok (.invokestatic 31, 3) := by decide +kernel
theorem dX4_rank_30 : decode cX4_rank 30 = .ok (.ireturn, 1) := by decide +kernel
set_option maxRecDepth 20000 in
theorem ggX4_move_X4_trade : GoodIn wsX4_move wsX4_trade := goodIn_r _ [9, 1, 4, 3, 10, 11, 12, 13, 14, 2, 15, 16, 8, 17, 18, 19, 20, 21, 22, 23] (by decide +kernel) (by decide +kernel)
set_option maxRecDepth 20000 in
theorem gX4_move_X4_trade : GoodIn wsX4_move (wsV RX4 35 RX4 yX4_trade wsX4_trade) := goodIn_app (goodIn_of _ (by decide +kernel)) ggX4_move_X4_trade
set_option maxRecDepth 20000 in
theorem ggX4_move_X4_find : GoodIn wsX4_move wsX4_find := goodIn_r _ [17] (by decide +kernel) (by decide +kernel)
set_option maxRecDepth 20000 in
theorem gX4_move_X4_find : GoodIn wsX4_move (va_wsS RX4 31 yX4_find wsX4_find) := goodIn_app (goodIn_of _ (by decide +kernel)) ggX4_move_X4_find
theorem dX4_move_0 : decode cX4_move 0 = .ok (.aload_n 0, 1) := by decide +kernel
theorem dX4_move_1 : decode cX4_move 1 = .ok (.iconst (-1), 1) := by decide +kernel
theorem dX4_move_2 : decode cX4_move 2 = .ok (.iconst (-1), 1) := by decide +kernel
theorem dX4_move_3 : decode cX4_move 3 = .ok (.aconst_null, 1) := by decide +kernel
theorem dX4_move_4 : decode cX4_move 4 = .ok (.invokevirtual 35, 3) := by decide +kernel
theorem dX4_move_7 : decode cX4_move 7 = .ok (.pop, 1) := by decide +kernel
theorem dX4_move_8 : decode cX4_move 8 = .ok (.iconst 0, 1) := by decide +kernel
theorem dX4_move_9 : decode cX4_move 9 = .ok (.istore_n 1, 1) := by decide +kernel
theorem dX4_move_10 : decode cX4_move 10 = .ok (.iconst 0, 1) := by decide +kernel
theorem dX4_move_11 : decode cX4_move 11 = .ok (.istore_n 2, 1) := by decide +kernel
theorem dX4_move_12 : decode cX4_move 12 = .ok (.iload_n 2, 1) := by decide +kernel
theorem dX4_move_13 : decode cX4_move 13 = .ok (.aload_n 0, 1) := by decide +kernel
theorem dX4_move_14 : decode cX4_move 14 = .ok (.getfield 7, 3) := by decide +kernel
theorem dX4_move_17 : decode cX4_move 17 = .ok (.arraylength, 1) := by decide +kernel
theorem dX4_move_18 : decode cX4_move 18 = .ok (.if_icmp .ge 77, 3) := by decide +kernel
theorem dX4_move_21 : decode cX4_move 21 = .ok (.aload_n 0, 1) := by decide +kernel
theorem dX4_move_22 : decode cX4_move 22 = .ok (.getfield 14, 3) := by decide +kernel
theorem dX4_move_25 : decode cX4_move 25 = .ok (.iload_n 2, 1) := by decide +kernel
theorem dX4_move_26 : decode cX4_move 26 = .ok (.aaload, 1) := by decide +kernel
theorem dX4_move_27 : decode cX4_move 27 = .ok (.aload_n 0, 1) := by decide +kernel
theorem dX4_move_28 : decode cX4_move 28 = .ok (.getfield 18, 3) := by decide +kernel
theorem dX4_move_31 : decode cX4_move 31 = .ok (.iload_n 2, 1) := by decide +kernel
theorem dX4_move_32 : decode cX4_move 32 = .ok (.iaload, 1) := by decide +kernel
theorem dX4_move_33 : decode cX4_move 33 = .ok (.invokestatic 31, 3) := by decide +kernel
theorem dX4_move_36 : decode cX4_move 36 = .ok (.istore_n 3, 1) := by decide +kernel
theorem dX4_move_37 : decode cX4_move 37 = .ok (.iload_n 3, 1) := by decide +kernel
theorem dX4_move_38 : decode cX4_move 38 = .ok (.ifCond .ge 6, 3) := by decide +kernel
theorem dX4_move_41 : decode cX4_move 41 = .ok (.goto 48, 3) := by decide +kernel
theorem dX4_move_44 : decode cX4_move 44 = .ok (.iload_n 3, 1) := by decide +kernel
theorem dX4_move_45 : decode cX4_move 45 = .ok (.newarray .int, 2) := by decide +kernel
theorem dX4_move_47 : decode cX4_move 47 = .ok (.astore 4, 2) := by decide +kernel
theorem dX4_move_49 : decode cX4_move 49 = .ok (.iconst 0, 1) := by decide +kernel
theorem dX4_move_50 : decode cX4_move 50 = .ok (.istore 5, 2) := by decide +kernel
theorem dX4_move_52 : decode cX4_move 52 = .ok (.iload 5, 2) := by decide +kernel
theorem dX4_move_54 : decode cX4_move 54 = .ok (.iload_n 3, 1) := by decide +kernel
theorem dX4_move_55 : decode cX4_move 55 = .ok (.if_icmp .ge 23, 3) := by decide +kernel
theorem dX4_move_58 : decode cX4_move 58 = .ok (.aload 4, 2) := by decide +kernel
theorem dX4_move_60 : decode cX4_move 60 = .ok (.iload 5, 2) := by decide +kernel
theorem dX4_move_62 : decode cX4_move 62 = .ok (.aload_n 0, 1) := by decide +kernel
theorem dX4_move_63 : decode cX4_move 63 = .ok (.getfield 14, 3) := by decide +kernel
theorem dX4_move_66 : decode cX4_move 66 = .ok (.iload_n 2, 1) := by decide +kernel
theorem dX4_move_67 : decode cX4_move 67 = .ok (.aaload, 1) := by decide +kernel
theorem dX4_move_68 : decode cX4_move 68 = .ok (.iload 5, 2) := by decide +kernel
theorem dX4_move_70 : decode cX4_move 70 = .ok (.iaload, 1) := by decide +kernel
theorem dX4_move_71 : decode cX4_move 71 = .ok (.iastore, 1) := by decide +kernel
theorem dX4_move_72 : decode cX4_move 72 = .ok (.iinc 5 1, 3) := by decide +kernel
theorem dX4_move_75 : decode cX4_move 75 = .ok (.goto (-23), 3) := by decide +kernel
theorem dX4_move_78 : decode cX4_move 78 = .ok (.aload_n 0, 1) := by decide +kernel
theorem dX4_move_79 : decode cX4_move 79 = .ok (.getfield 14, 3) := by decide +kernel
theorem dX4_move_82 : decode cX4_move 82 = .ok (.iload_n 2, 1) := by decide +kernel
theorem dX4_move_83 : decode cX4_move 83 = .ok (.aload 4, 2) := by decide +kernel
theorem dX4_move_85 : decode cX4_move 85 = .ok (.aastore, 1) := by decide +kernel
theorem dX4_move_86 : decode cX4_move 86 = .ok (.iinc 1 1, 3) := by decide +kernel
theorem dX4_move_89 : decode cX4_move 89 = .ok (.iinc 2 1, 3) := by decide +kernel
theorem dX4_move_92 : decode cX4_move 92 = .ok (.goto (-80), 3) := by decide +kernel
theorem dX4_move_95 : decode cX4_move 95 = .ok (.aload_n 0, 1) := by decide +kernel
theorem dX4_move_96 : decode cX4_move 96 = .ok (.aload_n 0, 1) := by decide +kernel
theorem dX4_move_97 : decode cX4_move 97 = .ok (.getfield 18, 3) := by decide +kernel
theorem dX4_move_100 : decode cX4_move 100 = .ok (.putfield 7, 3) := by decide +kernel
theorem dX4_move_103 : decode cX4_move 103 = .ok (.iload_n 1, 1) := by decide +kernel
theorem dX4_move_104 : decode cX4_move 104 = .ok (.ireturn, 1) := by decide +kernel
set_option maxRecDepth 20000 in
theorem ggX4_isSame_X4_trade : GoodIn wsX4_isSame wsX4_trade := goodIn_r _ [16, 1, 2, 4, 5, 6, 17, 7, 18, 3, 19, 20, 15, 21, 182, 183, 184, 185, 186, 187] (by decide +kernel) (by decide +kernel)
set_option maxRecDepth 20000 in
theorem gX4_isSame_X4_trade : GoodIn wsX4_isSame (wsV RX4 35 RX4 yX4_trade wsX4_trade) := goodIn_app (goodIn_of _ (by decide +kernel)) ggX4_isSame_X4_trade
set_option maxRecDepth 20000 in
theorem ggX4_isSame_X4_rank : GoodIn wsX4_isSame wsX4_rank := goodIn_r _ [25, 1, 3, 19, 20, 15, 21, 182, 183, 184, 185, 186, 187] (by decide +kernel) (by decide +kernel)
set_option maxRecDepth 20000 in
theorem gX4_isSame_X4_rank : GoodIn wsX4_isSame (wsV RX4 39 RX4 yX4_rank wsX4_rank) := goodIn_app (goodIn_of _ (by decide +kernel)) ggX4_isSame_X4_rank
set_option maxRecDepth 20000 in
theorem ggX4_isSame_X3_told : GoodIn wsX4_isSame wsX3_told := goodIn_ca (goodIn_r _ [30, 31, 32, 33, 34, 35, 36, 37, 29, 38, 39, 40, 41, 42, 43, 44, 45, 46, 47, 48, 49, 50, 51, 52, 53, 54, 55, 56, 57, 58, 59, 60, 61, 62, 63, 64, 65, 66, 67, 68, 69, 70, 71, 72, 73, 74, 75, 76, 77, 78, 79, 80, 81, 82, 83, 84, 85, 86, 87, 88, 89, 90, 91, 92, 93, 94, 95, 96, 97, 188, 189, 190, 191, 192, 193, 194, 195, 196, 197, 198, 199, 200, 201, 202, 203, 204] (by decide +kernel) (by decide +kernel)) (goodIn_sub (fun _ h => List.mem_cons_of_mem _ (List.mem_append_left _ (List.mem_append_right _ h))) (by decide +kernel))
set_option maxRecDepth 20000 in
theorem gX4_isSame_X3_told : GoodIn wsX4_isSame (wsV RX4 43 RX3 yX3_told wsX3_told) := goodIn_app (goodIn_of _ (by decide +kernel)) ggX4_isSame_X3_told
set_option maxRecDepth 20000 in
theorem ggX4_isSame_X3_list : GoodIn wsX4_isSame wsX3_list := goodIn_ca (goodIn_r _ [101, 33, 35, 36, 37, 29, 38, 31, 32, 39, 40, 41, 42, 43, 44, 45, 46, 47, 48, 49, 50, 60, 61, 62, 63, 64, 65, 102, 103, 104, 66, 105, 56, 57, 58, 59, 188, 189, 190, 191, 192, 193, 194, 195] (by decide +kernel) (by decide +kernel)) (goodIn_sub (fun _ h => List.mem_cons_of_mem _ (List.mem_append_left _ (List.mem_append_right _ h))) (by decide +kernel))
set_option maxRecDepth 20000 in
theorem gX4_isSame_X3_list : GoodIn wsX4_isSame (wsV RX4 48 RX3 yX3_list wsX3_list) := goodIn_app (goodIn_of _ (by decide +kernel)) ggX4_isSame_X3_list
set_option maxRecDepth 20000 in
theorem ggX4_isSame_X3_rank : GoodIn wsX4_isSame wsX3_rank := goodIn_ca (goodIn_r _ [109, 33, 35, 36, 37, 29, 38, 31, 32, 39, 40, 41, 42, 43, 44, 45, 46, 47, 48, 49, 50, 110, 111, 112, 113, 88, 89, 90, 91, 92, 61, 62, 63, 64, 65, 93, 52, 53, 54, 55, 56, 57, 58, 59, 94, 95, 96, 97, 188, 189, 190, 191, 192, 193, 194, 195] (by decide +kernel) (by decide +kernel)) (goodIn_sub (fun _ h => List.mem_cons_of_mem _ (List.mem_append_left _ (List.mem_append_right _ h))) (by decide +kernel))
set_option maxRecDepth 20000 in
theorem gX4_isSame_X3_rank : GoodIn wsX4_isSame (wsV RX4 51 RX3 yX3_rank wsX3_rank) := goodIn_app (goodIn_of _ (by decide +kernel)) ggX4_isSame_X3_rank
set_option maxRecDepth 20000 in
theorem ggX4_isSame_X3_points : GoodIn wsX4_isSame wsX3_points := goodIn_ca (goodIn_ca (goodIn_r _ [117, 118, 119, 34, 35, 36, 37, 29, 38, 31, 32, 33, 39, 40, 41, 42, 43, 44, 45, 46, 47, 48, 49, 50, 120, 121, 122, 70, 123, 78, 73, 56, 57, 58, 59, 124, 125, 126, 127, 128, 129, 130, 131, 61, 62, 63, 64, 65, 132, 133, 134, 135, 136, 94, 95, 96, 97, 137, 188, 189, 190, 191, 192, 193, 194, 195, 196, 197, 198, 199, 200, 201, 202, 203, 204] (by decide +kernel) (by decide +kernel)) (goodIn_sub (fun _ h => List.mem_cons_of_mem _ (List.mem_append_right _ h)) (by decide +kernel))) (goodIn_sub (fun _ h => List.mem_cons_of_mem _ (List.mem_append_left _ (List.mem_append_right _ h))) (by decide +kernel))
set_option maxRecDepth 20000 in
theorem gX4_isSame_X3_points : GoodIn wsX4_isSame (wsV RX4 52 RX3 yX3_points wsX3_points) := goodIn_app (goodIn_of _ (by decide +kernel)) ggX4_isSame_X3_points
set_option maxRecDepth 20000 in
theorem ggX4_isSame_X3_count : GoodIn wsX4_isSame wsX3_count := goodIn_ca (goodIn_r _ [141, 31, 32, 33, 34, 39, 40, 41, 42, 43, 44, 45, 46, 47, 48, 49, 50, 142, 143, 144, 70, 145, 146, 147, 148, 149, 150, 151, 152, 153, 154, 29, 155, 67, 68, 69, 71, 72, 73, 56, 57, 58, 59, 51, 52, 53, 54, 55, 156, 157, 158, 159, 84, 85, 86, 87, 88, 89, 90, 91, 92, 61, 62, 63, 64, 65, 93, 94, 95, 96, 97, 160, 161, 162, 163, 83, 164, 165, 166, 167, 168, 9, 10, 11, 169, 188, 189, 190, 191, 192, 193, 194, 195, 196, 197, 198, 199, 200, 201, 202, 203, 204] (by decide +kernel) (by decide +kernel)) (goodIn_sub (fun _ h => List.mem_cons_of_mem _ (List.mem_append_left _ (List.mem_append_right _ h))) (by decide +kernel))
set_option maxRecDepth 20000 in
theorem gX4_isSame_X3_count : GoodIn wsX4_isSame (wsV RX4 60 RX3 yX3_count wsX3_count) := goodIn_app (goodIn_of _ (by decide +kernel)) ggX4_isSame_X3_count
set_option maxRecDepth 20000 in
theorem ggX4_isSame_X3_mean : GoodIn wsX4_isSame wsX3_mean := goodIn_r _ [173, 33, 34, 39, 40, 41, 42, 43, 44, 45, 46, 47, 48, 49, 50, 174, 175, 176, 70, 177, 78, 178, 179, 180, 181, 169, 56, 57, 58, 59, 188, 189, 190, 191, 192, 193, 194, 195, 196, 197, 198, 199, 200, 201, 202, 203, 204] (by decide +kernel) (by decide +kernel)
set_option maxRecDepth 20000 in
theorem gX4_isSame_X3_mean : GoodIn wsX4_isSame (wsV RX4 64 RX3 yX3_mean wsX3_mean) := goodIn_app (goodIn_of _ (by decide +kernel)) ggX4_isSame_X3_mean
theorem dX4_isSame_0 : decode cX4_isSame 0 = .ok (.aload_n 0, 1) := by decide +kernel
theorem dX4_isSame_1 : decode cX4_isSame 1 = .ok (.iconst (-1), 1) := by decide +kernel
theorem dX4_isSame_2 : decode cX4_isSame 2 = .ok (.iconst (-1), 1) := by decide +kernel
theorem dX4_isSame_3 : decode cX4_isSame 3 = .ok (.aconst_null, 1) := by decide +kernel
theorem dX4_isSame_4 : decode cX4_isSame 4 = .ok (.invokevirtual 35, 3) := by decide +kernel
theorem dX4_isSame_7 : decode cX4_isSame 7 = .ok (.pop, 1) := by decide +kernel
theorem dX4_isSame_8 : decode cX4_isSame 8 = .ok (.aload_n 0, 1) := by decide +kernel
theorem dX4_isSame_9 : decode cX4_isSame 9 = .ok (.getfield 7, 3) := by decide +kernel
theorem dX4_isSame_12 : decode cX4_isSame 12 = .ok (.arraylength, 1) := by decide +kernel
theorem dX4_isSame_13 : decode cX4_isSame 13 = .ok (.istore_n 2, 1) := by decide +kernel
theorem dX4_isSame_14 : decode cX4_isSame 14 = .ok (.iconst 0, 1) := by decide +kernel
theorem dX4_isSame_15 : decode cX4_isSame 15 = .ok (.istore_n 3, 1) := by decide +kernel
theorem dX4_isSame_16 : decode cX4_isSame 16 = .ok (.iconst 0, 1) := by decide +kernel
theorem dX4_isSame_17 : decode cX4_isSame 17 = .ok (.istore 4, 2) := by decide +kernel
theorem dX4_isSame_19 : decode cX4_isSame 19 = .ok (.iconst 0, 1) := by decide +kernel
theorem dX4_isSame_20 : decode cX4_isSame 20 = .ok (.istore 5, 2) := by decide +kernel
theorem dX4_isSame_22 : decode cX4_isSame 22 = .ok (.iconst 0, 1) := by decide +kernel
theorem dX4_isSame_23 : decode cX4_isSame 23 = .ok (.istore 6, 2) := by decide +kernel
theorem dX4_isSame_25 : decode cX4_isSame 25 = .ok (.iconst 0, 1) := by decide +kernel
theorem dX4_isSame_26 : decode cX4_isSame 26 = .ok (.istore 7, 2) := by decide +kernel
theorem dX4_isSame_28 : decode cX4_isSame 28 = .ok (.iconst 0, 1) := by decide +kernel
theorem dX4_isSame_29 : decode cX4_isSame 29 = .ok (.istore 8, 2) := by decide +kernel
theorem dX4_isSame_31 : decode cX4_isSame 31 = .ok (.iconst 0, 1) := by decide +kernel
theorem dX4_isSame_32 : decode cX4_isSame 32 = .ok (.istore 9, 2) := by decide +kernel
theorem dX4_isSame_34 : decode cX4_isSame 34 = .ok (.iload 9, 2) := by decide +kernel
theorem dX4_isSame_36 : decode cX4_isSame 36 = .ok (.iload_n 2, 1) := by decide +kernel
theorem dX4_isSame_37 : decode cX4_isSame 37 = .ok (.if_icmp .ge 411, 3) := by decide +kernel
theorem dX4_isSame_40 : decode cX4_isSame 40 = .ok (.bipush 6, 2) := by decide +kernel
theorem dX4_isSame_42 : decode cX4_isSame 42 = .ok (.newarray .int, 2) := by decide +kernel
theorem dX4_isSame_44 : decode cX4_isSame 44 = .ok (.dup, 1) := by decide +kernel
theorem dX4_isSame_45 : decode cX4_isSame 45 = .ok (.iconst 0, 1) := by decide +kernel
theorem dX4_isSame_46 : decode cX4_isSame 46 = .ok (.aload_n 0, 1) := by decide +kernel
theorem dX4_isSame_47 : decode cX4_isSame 47 = .ok (.getfield 7, 3) := by decide +kernel
theorem dX4_isSame_50 : decode cX4_isSame 50 = .ok (.iload 9, 2) := by decide +kernel
theorem dX4_isSame_52 : decode cX4_isSame 52 = .ok (.iaload, 1) := by decide +kernel
theorem dX4_isSame_53 : decode cX4_isSame 53 = .ok (.iastore, 1) := by decide +kernel
theorem dX4_isSame_54 : decode cX4_isSame 54 = .ok (.dup, 1) := by decide +kernel
theorem dX4_isSame_55 : decode cX4_isSame 55 = .ok (.iconst 1, 1) := by decide +kernel
theorem dX4_isSame_56 : decode cX4_isSame 56 = .ok (.aload_n 0, 1) := by decide +kernel
theorem dX4_isSame_57 : decode cX4_isSame 57 = .ok (.getfield 14, 3) := by decide +kernel
theorem dX4_isSame_60 : decode cX4_isSame 60 = .ok (.iload 9, 2) := by decide +kernel
theorem dX4_isSame_62 : decode cX4_isSame 62 = .ok (.aaload, 1) := by decide +kernel
theorem dX4_isSame_63 : decode cX4_isSame 63 = .ok (.arraylength, 1) := by decide +kernel
theorem dX4_isSame_64 : decode cX4_isSame 64 = .ok (.iastore, 1) := by decide +kernel
theorem dX4_isSame_65 : decode cX4_isSame 65 = .ok (.dup, 1) := by decide +kernel
theorem dX4_isSame_66 : decode cX4_isSame 66 = .ok (.iconst 2, 1) := by decide +kernel
theorem dX4_isSame_67 : decode cX4_isSame 67 = .ok (.aload_n 0, 1) := by decide +kernel
theorem dX4_isSame_68 : decode cX4_isSame 68 = .ok (.getfield 18, 3) := by decide +kernel
theorem dX4_isSame_71 : decode cX4_isSame 71 = .ok (.iload 9, 2) := by decide +kernel
theorem dX4_isSame_73 : decode cX4_isSame 73 = .ok (.iaload, 1) := by decide +kernel
theorem dX4_isSame_74 : decode cX4_isSame 74 = .ok (.iastore, 1) := by decide +kernel
theorem dX4_isSame_75 : decode cX4_isSame 75 = .ok (.dup, 1) := by decide +kernel
theorem dX4_isSame_76 : decode cX4_isSame 76 = .ok (.iconst 3, 1) := by decide +kernel
theorem dX4_isSame_77 : decode cX4_isSame 77 = .ok (.aload_n 0, 1) := by decide +kernel
theorem dX4_isSame_78 : decode cX4_isSame 78 = .ok (.getfield 21, 3) := by decide +kernel
theorem dX4_isSame_81 : decode cX4_isSame 81 = .ok (.iload 9, 2) := by decide +kernel
theorem dX4_isSame_83 : decode cX4_isSame 83 = .ok (.iaload, 1) := by decide +kernel
theorem dX4_isSame_84 : decode cX4_isSame 84 = .ok (.iastore, 1) := by decide +kernel
theorem dX4_isSame_85 : decode cX4_isSame 85 = .ok (.dup, 1) := by decide +kernel
theorem dX4_isSame_86 : decode cX4_isSame 86 = .ok (.iconst 4, 1) := by decide +kernel
theorem dX4_isSame_87 : decode cX4_isSame 87 = .ok (.aload_n 0, 1) := by decide +kernel
theorem dX4_isSame_88 : decode cX4_isSame 88 = .ok (.getfield 24, 3) := by decide +kernel
theorem dX4_isSame_91 : decode cX4_isSame 91 = .ok (.iload 9, 2) := by decide +kernel
theorem dX4_isSame_93 : decode cX4_isSame 93 = .ok (.iaload, 1) := by decide +kernel
theorem dX4_isSame_94 : decode cX4_isSame 94 = .ok (.iastore, 1) := by decide +kernel
theorem dX4_isSame_95 : decode cX4_isSame 95 = .ok (.dup, 1) := by decide +kernel
theorem dX4_isSame_96 : decode cX4_isSame 96 = .ok (.iconst 5, 1) := by decide +kernel
theorem dX4_isSame_97 : decode cX4_isSame 97 = .ok (.aload_n 0, 1) := by decide +kernel
theorem dX4_isSame_98 : decode cX4_isSame 98 = .ok (.iload 9, 2) := by decide +kernel
theorem dX4_isSame_100 : decode cX4_isSame 100 = .ok (.aload_n 0, 1) := by decide +kernel
theorem dX4_isSame_101 : decode cX4_isSame 101 = .ok (.getfield 18, 3) := by decide +kernel
theorem dX4_isSame_104 : decode cX4_isSame 104 = .ok (.iload 9, 2) := by decide +kernel
theorem dX4_isSame_106 : decode cX4_isSame 106 = .ok (.iaload, 1) := by decide +kernel
theorem dX4_isSame_107 : decode cX4_isSame 107 = .ok (.invokevirtual 39, 3) := by decide +kernel
theorem dX4_isSame_110 : decode cX4_isSame 110 = .ok (.iastore, 1) := by decide +kernel
theorem dX4_isSame_111 : decode cX4_isSame 111 = .ok (.astore 10, 2) := by decide +kernel
theorem dX4_isSame_113 : decode cX4_isSame 113 = .ok (.iconst 0, 1) := by decide +kernel
theorem dX4_isSame_114 : decode cX4_isSame 114 = .ok (.istore 11, 2) := by decide +kernel
theorem dX4_isSame_116 : decode cX4_isSame 116 = .ok (.iload 11, 2) := by decide +kernel
theorem dX4_isSame_118 : decode cX4_isSame 118 = .ok (.bipush 6, 2) := by decide +kernel
theorem dX4_isSame_120 : decode cX4_isSame 120 = .ok (.if_icmp .ge 27, 3) := by decide +kernel
theorem dX4_isSame_123 : decode cX4_isSame 123 = .ok (.aload_n 1, 1) := by decide +kernel
theorem dX4_isSame_124 : decode cX4_isSame 124 = .ok (.iload 9, 2) := by decide +kernel
theorem dX4_isSame_126 : decode cX4_isSame 126 = .ok (.iload 11, 2) := by decide +kernel
theorem dX4_isSame_128 : decode cX4_isSame 128 = .ok (.invokevirtual 43, 3) := by decide +kernel
theorem dX4_isSame_131 : decode cX4_isSame 131 = .ok (.aload 10, 2) := by decide +kernel
theorem dX4_isSame_133 : decode cX4_isSame 133 = .ok (.iload 11, 2) := by decide +kernel
theorem dX4_isSame_135 : decode cX4_isSame 135 = .ok (.iaload, 1) := by decide +kernel
theorem dX4_isSame_136 : decode cX4_isSame 136 = .ok (.if_icmp .eq 5, 3) := by decide +kernel
theorem dX4_isSame_139 : decode cX4_isSame 139 = .ok (.iconst 0, 1) := by decide +kernel
theorem dX4_isSame_140 : decode cX4_isSame 140 = .ok (.ireturn, 1) := by decide +kernel
theorem dX4_isSame_141 : decode cX4_isSame 141 = .ok (.iinc 11 1, 3) := by decide +kernel
theorem dX4_isSame_144 : decode cX4_isSame 144 = .ok (.goto (-28), 3) := by decide +kernel
theorem dX4_isSame_147 : decode cX4_isSame 147 = .ok (.iconst 0, 1) := by decide +kernel
theorem dX4_isSame_148 : decode cX4_isSame 148 = .ok (.istore 11, 2) := by decide +kernel
theorem dX4_isSame_150 : decode cX4_isSame 150 = .ok (.iload 11, 2) := by decide +kernel
theorem dX4_isSame_152 : decode cX4_isSame 152 = .ok (.aload_n 0, 1) := by decide +kernel
theorem dX4_isSame_153 : decode cX4_isSame 153 = .ok (.getfield 14, 3) := by decide +kernel
theorem dX4_isSame_156 : decode cX4_isSame 156 = .ok (.iload 9, 2) := by decide +kernel
theorem dX4_isSame_158 : decode cX4_isSame 158 = .ok (.aaload, 1) := by decide +kernel
theorem dX4_isSame_159 : decode cX4_isSame 159 = .ok (.arraylength, 1) := by decide +kernel
theorem dX4_isSame_160 : decode cX4_isSame 160 = .ok (.if_icmp .ge 32, 3) := by decide +kernel
theorem dX4_isSame_163 : decode cX4_isSame 163 = .ok (.aload_n 1, 1) := by decide +kernel
theorem dX4_isSame_164 : decode cX4_isSame 164 = .ok (.iload 9, 2) := by decide +kernel
theorem dX4_isSame_166 : decode cX4_isSame 166 = .ok (.iload 11, 2) := by decide +kernel
theorem dX4_isSame_168 : decode cX4_isSame 168 = .ok (.invokevirtual 48, 3) := by decide +kernel
theorem dX4_isSame_171 : decode cX4_isSame 171 = .ok (.aload_n 0, 1) := by decide +kernel
theorem dX4_isSame_172 : decode cX4_isSame 172 = .ok (.getfield 14, 3) := by decide +kernel
theorem dX4_isSame_175 : decode cX4_isSame 175 = .ok (.iload 9, 2) := by decide +kernel
theorem dX4_isSame_177 : decode cX4_isSame 177 = .ok (.aaload, 1) := by decide +kernel
theorem dX4_isSame_178 : decode cX4_isSame 178 = .ok (.iload 11, 2) := by decide +kernel
theorem dX4_isSame_180 : decode cX4_isSame 180 = .ok (.iaload, 1) := by decide +kernel
theorem dX4_isSame_181 : decode cX4_isSame 181 = .ok (.if_icmp .eq 5, 3) := by decide +kernel
theorem dX4_isSame_184 : decode cX4_isSame 184 = .ok (.iconst 0, 1) := by decide +kernel
theorem dX4_isSame_185 : decode cX4_isSame 185 = .ok (.ireturn, 1) := by decide +kernel
theorem dX4_isSame_186 : decode cX4_isSame 186 = .ok (.iinc 11 1, 3) := by decide +kernel
theorem dX4_isSame_189 : decode cX4_isSame 189 = .ok (.goto (-39), 3) := by decide +kernel
theorem dX4_isSame_192 : decode cX4_isSame 192 = .ok (.iconst 0, 1) := by decide +kernel
theorem dX4_isSame_193 : decode cX4_isSame 193 = .ok (.istore 11, 2) := by decide +kernel
theorem dX4_isSame_195 : decode cX4_isSame 195 = .ok (.iload 11, 2) := by decide +kernel
theorem dX4_isSame_197 : decode cX4_isSame 197 = .ok (.iload_n 2, 1) := by decide +kernel
theorem dX4_isSame_198 : decode cX4_isSame 198 = .ok (.if_icmp .ge 30, 3) := by decide +kernel
theorem dX4_isSame_201 : decode cX4_isSame 201 = .ok (.aload_n 1, 1) := by decide +kernel
theorem dX4_isSame_202 : decode cX4_isSame 202 = .ok (.iload 9, 2) := by decide +kernel
theorem dX4_isSame_204 : decode cX4_isSame 204 = .ok (.iload 11, 2) := by decide +kernel
theorem dX4_isSame_206 : decode cX4_isSame 206 = .ok (.invokevirtual 51, 3) := by decide +kernel
theorem dX4_isSame_209 : decode cX4_isSame 209 = .ok (.aload_n 0, 1) := by decide +kernel
theorem dX4_isSame_210 : decode cX4_isSame 210 = .ok (.iload 9, 2) := by decide +kernel
theorem dX4_isSame_212 : decode cX4_isSame 212 = .ok (.iload 11, 2) := by decide +kernel
theorem dX4_isSame_214 : decode cX4_isSame 214 = .ok (.invokevirtual 39, 3) := by decide +kernel
theorem dX4_isSame_217 : decode cX4_isSame 217 = .ok (.if_icmp .eq 5, 3) := by decide +kernel
theorem dX4_isSame_220 : decode cX4_isSame 220 = .ok (.iconst 0, 1) := by decide +kernel
theorem dX4_isSame_221 : decode cX4_isSame 221 = .ok (.ireturn, 1) := by decide +kernel
theorem dX4_isSame_222 : decode cX4_isSame 222 = .ok (.iinc 11 1, 3) := by decide +kernel
theorem dX4_isSame_225 : decode cX4_isSame 225 = .ok (.goto (-30), 3) := by decide +kernel
theorem dX4_isSame_228 : decode cX4_isSame 228 = .ok (.iconst 0, 1) := by decide +kernel
theorem dX4_isSame_229 : decode cX4_isSame 229 = .ok (.istore 11, 2) := by decide +kernel
theorem dX4_isSame_231 : decode cX4_isSame 231 = .ok (.iload 11, 2) := by decide +kernel
theorem dX4_isSame_233 : decode cX4_isSame 233 = .ok (.iload_n 2, 1) := by decide +kernel
theorem dX4_isSame_234 : decode cX4_isSame 234 = .ok (.if_icmp .ge 34, 3) := by decide +kernel
theorem dX4_isSame_237 : decode cX4_isSame 237 = .ok (.aload_n 1, 1) := by decide +kernel
theorem dX4_isSame_238 : decode cX4_isSame 238 = .ok (.iload 9, 2) := by decide +kernel
theorem dX4_isSame_240 : decode cX4_isSame 240 = .ok (.iload 11, 2) := by decide +kernel
theorem dX4_isSame_242 : decode cX4_isSame 242 = .ok (.iconst 1, 1) := by decide +kernel
theorem dX4_isSame_243 : decode cX4_isSame 243 = .ok (.iadd, 1) := by decide +kernel
theorem dX4_isSame_244 : decode cX4_isSame 244 = .ok (.invokevirtual 52, 3) := by decide +kernel
theorem dX4_isSame_247 : decode cX4_isSame 247 = .ok (.aload_n 0, 1) := by decide +kernel
theorem dX4_isSame_248 : decode cX4_isSame 248 = .ok (.getfield 28, 3) := by decide +kernel
theorem dX4_isSame_251 : decode cX4_isSame 251 = .ok (.iload 9, 2) := by decide +kernel
theorem dX4_isSame_253 : decode cX4_isSame 253 = .ok (.aaload, 1) := by decide +kernel
theorem dX4_isSame_254 : decode cX4_isSame 254 = .ok (.iload 11, 2) := by decide +kernel
theorem dX4_isSame_256 : decode cX4_isSame 256 = .ok (.iaload, 1) := by decide +kernel
theorem dX4_isSame_257 : decode cX4_isSame 257 = .ok (.if_icmp .eq 5, 3) := by decide +kernel
theorem dX4_isSame_260 : decode cX4_isSame 260 = .ok (.iconst 0, 1) := by decide +kernel
theorem dX4_isSame_261 : decode cX4_isSame 261 = .ok (.ireturn, 1) := by decide +kernel
theorem dX4_isSame_262 : decode cX4_isSame 262 = .ok (.iinc 11 1, 3) := by decide +kernel
theorem dX4_isSame_265 : decode cX4_isSame 265 = .ok (.goto (-34), 3) := by decide +kernel
theorem dX4_isSame_268 : decode cX4_isSame 268 = .ok (.iload_n 3, 1) := by decide +kernel
theorem dX4_isSame_269 : decode cX4_isSame 269 = .ok (.aload_n 0, 1) := by decide +kernel
theorem dX4_isSame_270 : decode cX4_isSame 270 = .ok (.getfield 21, 3) := by decide +kernel
theorem dX4_isSame_273 : decode cX4_isSame 273 = .ok (.iload 9, 2) := by decide +kernel
theorem dX4_isSame_275 : decode cX4_isSame 275 = .ok (.iaload, 1) := by decide +kernel
theorem dX4_isSame_276 : decode cX4_isSame 276 = .ok (.invokestatic 55, 3) := by decide +kernel
theorem dX4_isSame_279 : decode cX4_isSame 279 = .ok (.istore_n 3, 1) := by decide +kernel
theorem dX4_isSame_280 : decode cX4_isSame 280 = .ok (.iload 5, 2) := by decide +kernel
theorem dX4_isSame_282 : decode cX4_isSame 282 = .ok (.aload_n 0, 1) := by decide +kernel
theorem dX4_isSame_283 : decode cX4_isSame 283 = .ok (.getfield 18, 3) := by decide +kernel
theorem dX4_isSame_286 : decode cX4_isSame 286 = .ok (.iload 9, 2) := by decide +kernel
theorem dX4_isSame_288 : decode cX4_isSame 288 = .ok (.iaload, 1) := by decide +kernel
theorem dX4_isSame_289 : decode cX4_isSame 289 = .ok (.aload_n 0, 1) := by decide +kernel
theorem dX4_isSame_290 : decode cX4_isSame 290 = .ok (.getfield 7, 3) := by decide +kernel
theorem dX4_isSame_293 : decode cX4_isSame 293 = .ok (.iload 9, 2) := by decide +kernel
theorem dX4_isSame_295 : decode cX4_isSame 295 = .ok (.iaload, 1) := by decide +kernel
theorem dX4_isSame_296 : decode cX4_isSame 296 = .ok (.if_icmp .eq 7, 3) := by decide +kernel
theorem dX4_isSame_299 : decode cX4_isSame 299 = .ok (.iconst 1, 1) := by decide +kernel
theorem dX4_isSame_300 : decode cX4_isSame 300 = .ok (.goto 4, 3) := by decide +kernel
theorem dX4_isSame_303 : decode cX4_isSame 303 = .ok (.iconst 0, 1) := by decide +kernel
theorem dX4_isSame_304 : decode cX4_isSame 304 = .ok (.iadd, 1) := by decide +kernel
theorem dX4_isSame_305 : decode cX4_isSame 305 = .ok (.istore 5, 2) := by decide +kernel
theorem dX4_isSame_307 : decode cX4_isSame 307 = .ok (.iload 6, 2) := by decide +kernel
theorem dX4_isSame_309 : decode cX4_isSame 309 = .ok (.aload 10, 2) := by decide +kernel
theorem dX4_isSame_311 : decode cX4_isSame 311 = .ok (.iconst 5, 1) := by decide +kernel
theorem dX4_isSame_312 : decode cX4_isSame 312 = .ok (.iaload, 1) := by decide +kernel
theorem dX4_isSame_313 : decode cX4_isSame 313 = .ok (.iadd, 1) := by decide +kernel
theorem dX4_isSame_314 : decode cX4_isSame 314 = .ok (.istore 6, 2) := by decide +kernel
theorem dX4_isSame_316 : decode cX4_isSame 316 = .ok (.iload 7, 2) := by decide +kernel
theorem dX4_isSame_318 : decode cX4_isSame 318 = .ok (.aload_n 0, 1) := by decide +kernel
theorem dX4_isSame_319 : decode cX4_isSame 319 = .ok (.getfield 24, 3) := by decide +kernel
theorem dX4_isSame_322 : decode cX4_isSame 322 = .ok (.iload 9, 2) := by decide +kernel
theorem dX4_isSame_324 : decode cX4_isSame 324 = .ok (.iaload, 1) := by decide +kernel
theorem dX4_isSame_325 : decode cX4_isSame 325 = .ok (.invokestatic 55, 3) := by decide +kernel
theorem dX4_isSame_328 : decode cX4_isSame 328 = .ok (.istore 7, 2) := by decide +kernel
theorem dX4_isSame_330 : decode cX4_isSame 330 = .ok (.iload 8, 2) := by decide +kernel
theorem dX4_isSame_332 : decode cX4_isSame 332 = .ok (.aload_n 0, 1) := by decide +kernel
theorem dX4_isSame_333 : decode cX4_isSame 333 = .ok (.getfield 21, 3) := by decide +kernel
theorem dX4_isSame_336 : decode cX4_isSame 336 = .ok (.iload 9, 2) := by decide +kernel
theorem dX4_isSame_338 : decode cX4_isSame 338 = .ok (.iaload, 1) := by decide +kernel
theorem dX4_isSame_339 : decode cX4_isSame 339 = .ok (.iadd, 1) := by decide +kernel
theorem dX4_isSame_340 : decode cX4_isSame 340 = .ok (.istore 8, 2) := by decide +kernel
theorem dX4_isSame_342 : decode cX4_isSame 342 = .ok (.aload_n 0, 1) := by decide +kernel
theorem dX4_isSame_343 : decode cX4_isSame 343 = .ok (.getfield 24, 3) := by decide +kernel
theorem dX4_isSame_346 : decode cX4_isSame 346 = .ok (.iload 9, 2) := by decide +kernel
theorem dX4_isSame_348 : decode cX4_isSame 348 = .ok (.iaload, 1) := by decide +kernel
theorem dX4_isSame_349 : decode cX4_isSame 349 = .ok (.iconst 1, 1) := by decide +kernel
theorem dX4_isSame_350 : decode cX4_isSame 350 = .ok (.if_icmp .le 7, 3) := by decide +kernel
theorem dX4_isSame_353 : decode cX4_isSame 353 = .ok (.iconst 1, 1) := by decide +kernel
theorem dX4_isSame_354 : decode cX4_isSame 354 = .ok (.goto 4, 3) := by decide +kernel
theorem dX4_isSame_357 : decode cX4_isSame 357 = .ok (.iconst 0, 1) := by decide +kernel
theorem dX4_isSame_358 : decode cX4_isSame 358 = .ok (.istore 11, 2) := by decide +kernel
theorem dX4_isSame_360 : decode cX4_isSame 360 = .ok (.aload_n 0, 1) := by decide +kernel
theorem dX4_isSame_361 : decode cX4_isSame 361 = .ok (.getfield 28, 3) := by decide +kernel
theorem dX4_isSame_364 : decode cX4_isSame 364 = .ok (.iload 9, 2) := by decide +kernel
theorem dX4_isSame_366 : decode cX4_isSame 366 = .ok (.aaload, 1) := by decide +kernel
theorem dX4_isSame_367 : decode cX4_isSame 367 = .ok (.aload_n 0, 1) := by decide +kernel
theorem dX4_isSame_368 : decode cX4_isSame 368 = .ok (.getfield 21, 3) := by decide +kernel
theorem dX4_isSame_371 : decode cX4_isSame 371 = .ok (.iload 9, 2) := by decide +kernel
theorem dX4_isSame_373 : decode cX4_isSame 373 = .ok (.iaload, 1) := by decide +kernel
theorem dX4_isSame_374 : decode cX4_isSame 374 = .ok (.iconst 1, 1) := by decide +kernel
theorem dX4_isSame_375 : decode cX4_isSame 375 = .ok (.isub, 1) := by decide +kernel
theorem dX4_isSame_376 : decode cX4_isSame 376 = .ok (.iaload, 1) := by decide +kernel
theorem dX4_isSame_377 : decode cX4_isSame 377 = .ok (.istore 12, 2) := by decide +kernel
theorem dX4_isSame_379 : decode cX4_isSame 379 = .ok (.iload 12, 2) := by decide +kernel
theorem dX4_isSame_381 : decode cX4_isSame 381 = .ok (.iload 9, 2) := by decide +kernel
theorem dX4_isSame_383 : decode cX4_isSame 383 = .ok (.if_icmp .eq 44, 3) := by decide +kernel
theorem dX4_isSame_386 : decode cX4_isSame 386 = .ok (.iload 11, 2) := by decide +kernel
theorem dX4_isSame_388 : decode cX4_isSame 388 = .ok (.ifCond .eq 14, 3) := by decide +kernel
theorem dX4_isSame_391 : decode cX4_isSame 391 = .ok (.iload 9, 2) := by decide +kernel
theorem dX4_isSame_393 : decode cX4_isSame 393 = .ok (.iload 12, 2) := by decide +kernel
theorem dX4_isSame_395 : decode cX4_isSame 395 = .ok (.if_icmp .ge 7, 3) := by decide +kernel
theorem dX4_isSame_398 : decode cX4_isSame 398 = .ok (.iconst 1, 1) := by decide +kernel
theorem dX4_isSame_399 : decode cX4_isSame 399 = .ok (.goto 4, 3) := by decide +kernel
theorem dX4_isSame_402 : decode cX4_isSame 402 = .ok (.iconst 0, 1) := by decide +kernel
theorem dX4_isSame_403 : decode cX4_isSame 403 = .ok (.istore 11, 2) := by decide +kernel
theorem dX4_isSame_405 : decode cX4_isSame 405 = .ok (.aload_n 0, 1) := by decide +kernel
theorem dX4_isSame_406 : decode cX4_isSame 406 = .ok (.getfield 28, 3) := by decide +kernel
theorem dX4_isSame_409 : decode cX4_isSame 409 = .ok (.iload 12, 2) := by decide +kernel
theorem dX4_isSame_411 : decode cX4_isSame 411 = .ok (.aaload, 1) := by decide +kernel
theorem dX4_isSame_412 : decode cX4_isSame 412 = .ok (.aload_n 0, 1) := by decide +kernel
theorem dX4_isSame_413 : decode cX4_isSame 413 = .ok (.getfield 21, 3) := by decide +kernel
theorem dX4_isSame_416 : decode cX4_isSame 416 = .ok (.iload 9, 2) := by decide +kernel
theorem dX4_isSame_418 : decode cX4_isSame 418 = .ok (.iaload, 1) := by decide +kernel
theorem dX4_isSame_419 : decode cX4_isSame 419 = .ok (.iconst 1, 1) := by decide +kernel
theorem dX4_isSame_420 : decode cX4_isSame 420 = .ok (.isub, 1) := by decide +kernel
theorem dX4_isSame_421 : decode cX4_isSame 421 = .ok (.iaload, 1) := by decide +kernel
theorem dX4_isSame_422 : decode cX4_isSame 422 = .ok (.istore 12, 2) := by decide +kernel
theorem dX4_isSame_424 : decode cX4_isSame 424 = .ok (.goto (-45), 3) := by decide +kernel
theorem dX4_isSame_427 : decode cX4_isSame 427 = .ok (.iload 4, 2) := by decide +kernel
theorem dX4_isSame_429 : decode cX4_isSame 429 = .ok (.iload 11, 2) := by decide +kernel
theorem dX4_isSame_431 : decode cX4_isSame 431 = .ok (.ifCond .eq 7, 3) := by decide +kernel
theorem dX4_isSame_434 : decode cX4_isSame 434 = .ok (.iconst 1, 1) := by decide +kernel
theorem dX4_isSame_435 : decode cX4_isSame 435 = .ok (.goto 4, 3) := by decide +kernel
theorem dX4_isSame_438 : decode cX4_isSame 438 = .ok (.iconst 0, 1) := by decide +kernel
theorem dX4_isSame_439 : decode cX4_isSame 439 = .ok (.iadd, 1) := by decide +kernel
theorem dX4_isSame_440 : decode cX4_isSame 440 = .ok (.istore 4, 2) := by decide +kernel
theorem dX4_isSame_442 : decode cX4_isSame 442 = .ok (.iinc 9 1, 3) := by decide +kernel
theorem dX4_isSame_445 : decode cX4_isSame 445 = .ok (.goto (-411), 3) := by decide +kernel
theorem dX4_isSame_448 : decode cX4_isSame 448 = .ok (.bipush 6, 2) := by decide +kernel
theorem dX4_isSame_450 : decode cX4_isSame 450 = .ok (.newarray .int, 2) := by decide +kernel
theorem dX4_isSame_452 : decode cX4_isSame 452 = .ok (.dup, 1) := by decide +kernel
theorem dX4_isSame_453 : decode cX4_isSame 453 = .ok (.iconst 0, 1) := by decide +kernel
theorem dX4_isSame_454 : decode cX4_isSame 454 = .ok (.iload_n 2, 1) := by decide +kernel
theorem dX4_isSame_455 : decode cX4_isSame 455 = .ok (.iastore, 1) := by decide +kernel
theorem dX4_isSame_456 : decode cX4_isSame 456 = .ok (.dup, 1) := by decide +kernel
theorem dX4_isSame_457 : decode cX4_isSame 457 = .ok (.iconst 1, 1) := by decide +kernel
theorem dX4_isSame_458 : decode cX4_isSame 458 = .ok (.iload_n 3, 1) := by decide +kernel
theorem dX4_isSame_459 : decode cX4_isSame 459 = .ok (.iastore, 1) := by decide +kernel
theorem dX4_isSame_460 : decode cX4_isSame 460 = .ok (.dup, 1) := by decide +kernel
theorem dX4_isSame_461 : decode cX4_isSame 461 = .ok (.iconst 2, 1) := by decide +kernel
theorem dX4_isSame_462 : decode cX4_isSame 462 = .ok (.iload 4, 2) := by decide +kernel
theorem dX4_isSame_464 : decode cX4_isSame 464 = .ok (.iastore, 1) := by decide +kernel
theorem dX4_isSame_465 : decode cX4_isSame 465 = .ok (.dup, 1) := by decide +kernel
theorem dX4_isSame_466 : decode cX4_isSame 466 = .ok (.iconst 3, 1) := by decide +kernel
theorem dX4_isSame_467 : decode cX4_isSame 467 = .ok (.iload 5, 2) := by decide +kernel
theorem dX4_isSame_469 : decode cX4_isSame 469 = .ok (.iastore, 1) := by decide +kernel
theorem dX4_isSame_470 : decode cX4_isSame 470 = .ok (.dup, 1) := by decide +kernel
theorem dX4_isSame_471 : decode cX4_isSame 471 = .ok (.iconst 4, 1) := by decide +kernel
theorem dX4_isSame_472 : decode cX4_isSame 472 = .ok (.iload 6, 2) := by decide +kernel
theorem dX4_isSame_474 : decode cX4_isSame 474 = .ok (.iastore, 1) := by decide +kernel
theorem dX4_isSame_475 : decode cX4_isSame 475 = .ok (.dup, 1) := by decide +kernel
theorem dX4_isSame_476 : decode cX4_isSame 476 = .ok (.iconst 5, 1) := by decide +kernel
theorem dX4_isSame_477 : decode cX4_isSame 477 = .ok (.iload 7, 2) := by decide +kernel
theorem dX4_isSame_479 : decode cX4_isSame 479 = .ok (.iastore, 1) := by decide +kernel
theorem dX4_isSame_480 : decode cX4_isSame 480 = .ok (.astore 9, 2) := by decide +kernel
theorem dX4_isSame_482 : decode cX4_isSame 482 = .ok (.iconst 0, 1) := by decide +kernel
theorem dX4_isSame_483 : decode cX4_isSame 483 = .ok (.istore 10, 2) := by decide +kernel
theorem dX4_isSame_485 : decode cX4_isSame 485 = .ok (.iload 10, 2) := by decide +kernel
theorem dX4_isSame_487 : decode cX4_isSame 487 = .ok (.bipush 6, 2) := by decide +kernel
theorem dX4_isSame_489 : decode cX4_isSame 489 = .ok (.if_icmp .ge 25, 3) := by decide +kernel
theorem dX4_isSame_492 : decode cX4_isSame 492 = .ok (.aload_n 1, 1) := by decide +kernel
theorem dX4_isSame_493 : decode cX4_isSame 493 = .ok (.iload 10, 2) := by decide +kernel
theorem dX4_isSame_495 : decode cX4_isSame 495 = .ok (.invokevirtual 60, 3) := by decide +kernel
theorem dX4_isSame_498 : decode cX4_isSame 498 = .ok (.aload 9, 2) := by decide +kernel
theorem dX4_isSame_500 : decode cX4_isSame 500 = .ok (.iload 10, 2) := by decide +kernel
theorem dX4_isSame_502 : decode cX4_isSame 502 = .ok (.iaload, 1) := by decide +kernel
