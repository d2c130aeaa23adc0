set_option maxRecDepth 20000 in
theorem gX4_drop_X4_isIn : GoodIn wsX4_drop (va_wsS RX4 51 yX4_isIn wsX4_isIn) := goodIn_app (goodIn_of _ (by decide +kernel)) ggX4_drop_X4_isIn
set_option maxRecDepth 20000 in
theorem ggX4_drop_X4_fail : GoodIn wsX4_drop wsX4_fail := goodIn_r _ [16, 1, 21, 22, 23, 24, 25, 26, 27, 28, 29, 30, 31, 32, 33, 34, 35, 36] (by decide +kernel) (by decide +kernel)
set_option maxRecDepth 20000 in
theorem gX4_drop_X4_fail : GoodIn wsX4_drop (wsV RX4 55 RX4 yX4_fail wsX4_fail) := goodIn_app (goodIn_of _ (by decide +kernel)) ggX4_drop_X4_fail
set_option maxRecDepth 20000 in
theorem ggX4_drop_X4_li : GoodIn wsX4_drop wsX4_li := goodIn_r _ [20, 3, 21, 22, 23, 24, 25, 26, 27, 28, 29, 30, 31, 32, 33, 34, 35, 36] (by decide +kernel) (by decide +kernel)
set_option maxRecDepth 20000 in
theorem gX4_drop_X4_li : GoodIn wsX4_drop (wsV RX4 59 RX4 yX4_li wsX4_li) := goodIn_app (goodIn_of _ (by decide +kernel)) ggX4_drop_X4_li
theorem dX4_drop_0 : decode cX4_drop 0 = .ok (.aload_n 0, 1) := by decide +kernel
theorem dX4_drop_1 : decode cX4_drop 1 = .ok (.iconst 0, 1) := by decide +kernel
theorem dX4_drop_2 : decode cX4_drop 2 = .ok (.putfield 45, 3) := by decide +kernel
theorem dX4_drop_5 : decode cX4_drop 5 = .ok (.aload_n 0, 1) := by decide +kernel
theorem dX4_drop_6 : decode cX4_drop 6 = .ok (.iload_n 1, 1) := by decide +kernel
theorem dX4_drop_7 : decode cX4_drop 7 = .ok (.invokevirtual 63, 3) := by decide +kernel
theorem dX4_drop_10 : decode cX4_drop 10 = .ok (.ifCond .eq 19, 3) := by decide +kernel
theorem dX4_drop_13 : decode cX4_drop 13 = .ok (.iload_n 2, 1) := by decide +kernel
theorem dX4_drop_14 : decode cX4_drop 14 = .ok (.iconst 0, 1) := by decide +kernel
theorem dX4_drop_15 : decode cX4_drop 15 = .ok (.aload_n 0, 1) := by decide +kernel
theorem dX4_drop_16 : decode cX4_drop 16 = .ok (.getfield 13, 3) := by decide +kernel
theorem dX4_drop_19 : decode cX4_drop 19 = .ok (.iload_n 1, 1) := by decide +kernel
theorem dX4_drop_20 : decode cX4_drop 20 = .ok (.iaload, 1) := by decide +kernel
theorem dX4_drop_21 : decode cX4_drop 21 = .ok (.iconst 1, 1) := by decide +kernel
theorem dX4_drop_22 : decode cX4_drop 22 = .ok (.isub, 1) := by decide +kernel
theorem dX4_drop_23 : decode cX4_drop 23 = .ok (.invokestatic 51, 3) := by decide +kernel
theorem dX4_drop_26 : decode cX4_drop 26 = .ok (.ifCond .ne 9, 3) := by decide +kernel
theorem dX4_drop_29 : decode cX4_drop 29 = .ok (.aload_n 0, 1) := by decide +kernel
theorem dX4_drop_30 : decode cX4_drop 30 = .ok (.iconst 1, 1) := by decide +kernel
theorem dX4_drop_31 : decode cX4_drop 31 = .ok (.invokevirtual 55, 3) := by decide +kernel
theorem dX4_drop_34 : decode cX4_drop 34 = .ok (.ireturn, 1) := by decide +kernel
theorem dX4_drop_35 : decode cX4_drop 35 = .ok (.aload_n 0, 1) := by decide +kernel
theorem dX4_drop_36 : decode cX4_drop 36 = .ok (.iload_n 1, 1) := by decide +kernel
theorem dX4_drop_37 : decode cX4_drop 37 = .ok (.iload_n 2, 1) := by decide +kernel
theorem dX4_drop_38 : decode cX4_drop 38 = .ok (.invokevirtual 59, 3) := by decide +kernel
theorem dX4_drop_41 : decode cX4_drop 41 = .ok (.istore_n 3, 1) := by decide +kernel
theorem dX4_drop_42 : decode cX4_drop 42 = .ok (.aload_n 0, 1) := by decide +kernel
theorem dX4_drop_43 : decode cX4_drop 43 = .ok (.getfield 13, 3) := by decide +kernel
theorem dX4_drop_46 : decode cX4_drop 46 = .ok (.iload_n 1, 1) := by decide +kernel
theorem dX4_drop_47 : decode cX4_drop 47 = .ok (.dup2, 1) := by decide +kernel
theorem dX4_drop_48 : decode cX4_drop 48 = .ok (.iaload, 1) := by decide +kernel
theorem dX4_drop_49 : decode cX4_drop 49 = .ok (.iconst 1, 1) := by decide +kernel
theorem dX4_drop_50 : decode cX4_drop 50 = .ok (.isub, 1) := by decide +kernel
theorem dX4_drop_51 : decode cX4_drop 51 = .ok (.iastore, 1) := by decide +kernel
theorem dX4_drop_52 : decode cX4_drop 52 = .ok (.iload_n 2, 1) := by decide +kernel
theorem dX4_drop_53 : decode cX4_drop 53 = .ok (.istore 4, 2) := by decide +kernel
theorem dX4_drop_55 : decode cX4_drop 55 = .ok (.iload 4, 2) := by decide +kernel
theorem dX4_drop_57 : decode cX4_drop 57 = .ok (.aload_n 0, 1) := by decide +kernel
theorem dX4_drop_58 : decode cX4_drop 58 = .ok (.getfield 13, 3) := by decide +kernel
theorem dX4_drop_61 : decode cX4_drop 61 = .ok (.iload_n 1, 1) := by decide +kernel
theorem dX4_drop_62 : decode cX4_drop 62 = .ok (.iaload, 1) := by decide +kernel
theorem dX4_drop_63 : decode cX4_drop 63 = .ok (.if_icmp .ge 30, 3) := by decide +kernel
theorem dX4_drop_66 : decode cX4_drop 66 = .ok (.aload_n 0, 1) := by decide +kernel
theorem dX4_drop_67 : decode cX4_drop 67 = .ok (.getfield 16, 3) := by decide +kernel
theorem dX4_drop_70 : decode cX4_drop 70 = .ok (.bipush 10, 2) := by decide +kernel
theorem dX4_drop_72 : decode cX4_drop 72 = .ok (.iload_n 1, 1) := by decide +kernel
theorem dX4_drop_73 : decode cX4_drop 73 = .ok (.imul, 1) := by decide +kernel
theorem dX4_drop_74 : decode cX4_drop 74 = .ok (.iload 4, 2) := by decide +kernel
theorem dX4_drop_76 : decode cX4_drop 76 = .ok (.iadd, 1) := by decide +kernel
theorem dX4_drop_77 : decode cX4_drop 77 = .ok (.aload_n 0, 1) := by decide +kernel
theorem dX4_drop_78 : decode cX4_drop 78 = .ok (.iload_n 1, 1) := by decide +kernel
theorem dX4_drop_79 : decode cX4_drop 79 = .ok (.iload 4, 2) := by decide +kernel
theorem dX4_drop_81 : decode cX4_drop 81 = .ok (.iconst 1, 1) := by decide +kernel
theorem dX4_drop_82 : decode cX4_drop 82 = .ok (.iadd, 1) := by decide +kernel
theorem dX4_drop_83 : decode cX4_drop 83 = .ok (.invokevirtual 59, 3) := by decide +kernel
theorem dX4_drop_86 : decode cX4_drop 86 = .ok (.iastore, 1) := by decide +kernel
theorem dX4_drop_87 : decode cX4_drop 87 = .ok (.iinc 4 1, 3) := by decide +kernel
theorem dX4_drop_90 : decode cX4_drop 90 = .ok (.goto (-35), 3) := by decide +kernel
theorem dX4_drop_93 : decode cX4_drop 93 = .ok (.iload_n 3, 1) := by decide +kernel
theorem dX4_drop_94 : decode cX4_drop 94 = .ok (.ireturn, 1) := by decide +kernel
set_option maxRecDepth 20000 in
theorem ggX4_list_X4_isKeeper : GoodIn wsX4_list wsX4_isKeeper := goodIn_r _ [7, 8, 9, 10, 6, 11, 21, 22, 23, 24, 25, 26, 27, 28, 29, 30, 31, 32, 33, 34, 35, 36] (by decide +kernel) (by decide +kernel)
set_option maxRecDepth 20000 in
theorem gX4_list_X4_isKeeper : GoodIn wsX4_list (wsV RX4 63 RX4 yX4_isKeeper wsX4_isKeeper) := goodIn_app (goodIn_of _ (by decide +kernel)) ggX4_list_X4_isKeeper
set_option maxRecDepth 20000 in
theorem ggX4_list_X4_isIn : GoodIn wsX4_list wsX4_isIn := goodIn_r _ [11] (by decide +kernel) (by decide +kernel)
set_option maxRecDepth 20000 in
theorem gX4_list_X4_isIn : GoodIn wsX4_list (va_wsS RX4 51 yX4_isIn wsX4_isIn) := goodIn_app (goodIn_of _ (by decide +kernel)) ggX4_list_X4_isIn
set_option maxRecDepth 20000 in
theorem ggX4_list_X4_li : GoodIn wsX4_list wsX4_li := goodIn_r _ [15, 16, 21, 22, 23, 24, 25, 26, 27, 28, 29, 30, 31, 32, 33, 34, 35, 36] (by decide +kernel) (by decide +kernel)
set_option maxRecDepth 20000 in
theorem gX4_list_X4_li : GoodIn wsX4_list (wsV RX4 59 RX4 yX4_li wsX4_li) := goodIn_app (goodIn_of _ (by decide +kernel)) ggX4_list_X4_li
set_option maxRecDepth 20000 in
theorem ggX4_list_X4_fail : GoodIn wsX4_list wsX4_fail := goodIn_r _ [20, 1, 21, 22, 23, 24, 25, 26, 27, 28, 29, 30, 31, 32, 33, 34, 35, 36] (by decide +kernel) (by decide +kernel)
set_option maxRecDepth 20000 in
theorem gX4_list_X4_fail : GoodIn wsX4_list (wsV RX4 55 RX4 yX4_fail wsX4_fail) := goodIn_app (goodIn_of _ (by decide +kernel)) ggX4_list_X4_fail
theorem dX4_list_0 : decode cX4_list 0 = .ok (.aload_n 0, 1) := by decide +kernel
theorem dX4_list_1 : decode cX4_list 1 = .ok (.iconst 0, 1) := by decide +kernel
theorem dX4_list_2 : decode cX4_list 2 = .ok (.putfield 45, 3) := by decide +kernel
theorem dX4_list_5 : decode cX4_list 5 = .ok (.aload_n 0, 1) := by decide +kernel
theorem dX4_list_6 : decode cX4_list 6 = .ok (.iload_n 1, 1) := by decide +kernel
theorem dX4_list_7 : decode cX4_list 7 = .ok (.invokevirtual 63, 3) := by decide +kernel
theorem dX4_list_10 : decode cX4_list 10 = .ok (.ifCond .eq 28, 3) := by decide +kernel
theorem dX4_list_13 : decode cX4_list 13 = .ok (.iload_n 2, 1) := by decide +kernel
theorem dX4_list_14 : decode cX4_list 14 = .ok (.iconst 0, 1) := by decide +kernel
theorem dX4_list_15 : decode cX4_list 15 = .ok (.aload_n 0, 1) := by decide +kernel
theorem dX4_list_16 : decode cX4_list 16 = .ok (.getfield 13, 3) := by decide +kernel
theorem dX4_list_19 : decode cX4_list 19 = .ok (.iload_n 1, 1) := by decide +kernel
theorem dX4_list_20 : decode cX4_list 20 = .ok (.iaload, 1) := by decide +kernel
theorem dX4_list_21 : decode cX4_list 21 = .ok (.iconst 1, 1) := by decide +kernel
theorem dX4_list_22 : decode cX4_list 22 = .ok (.isub, 1) := by decide +kernel
theorem dX4_list_23 : decode cX4_list 23 = .ok (.invokestatic 51, 3) := by decide +kernel
theorem dX4_list_26 : decode cX4_list 26 = .ok (.ifCond .eq 12, 3) := by decide +kernel
theorem dX4_list_29 : decode cX4_list 29 = .ok (.aload_n 0, 1) := by decide +kernel
theorem dX4_list_30 : decode cX4_list 30 = .ok (.iload_n 1, 1) := by decide +kernel
theorem dX4_list_31 : decode cX4_list 31 = .ok (.iload_n 2, 1) := by decide +kernel
theorem dX4_list_32 : decode cX4_list 32 = .ok (.invokevirtual 59, 3) := by decide +kernel
theorem dX4_list_35 : decode cX4_list 35 = .ok (.goto 8, 3) := by decide +kernel
theorem dX4_list_38 : decode cX4_list 38 = .ok (.aload_n 0, 1) := by decide +kernel
theorem dX4_list_39 : decode cX4_list 39 = .ok (.iconst 1, 1) := by decide +kernel
theorem dX4_list_40 : decode cX4_list 40 = .ok (.invokevirtual 55, 3) := by decide +kernel
theorem dX4_list_43 : decode cX4_list 43 = .ok (.ireturn, 1) := by decide +kernel
theorem dX4_owner_0 : decode cX4_owner 0 = .ok (.iconst 0, 1) := by decide +kernel
theorem dX4_owner_1 : decode cX4_owner 1 = .ok (.istore_n 2, 1) := by decide +kernel
theorem dX4_owner_2 : decode cX4_owner 2 = .ok (.iload_n 2, 1) := by decide +kernel
theorem dX4_owner_3 : decode cX4_owner 3 = .ok (.aload_n 0, 1) := by decide +kernel
theorem dX4_owner_4 : decode cX4_owner 4 = .ok (.getfield 48, 3) := by decide +kernel
theorem dX4_owner_7 : decode cX4_owner 7 = .ok (.if_icmp .ge 21, 3) := by decide +kernel
theorem dX4_owner_10 : decode cX4_owner 10 = .ok (.aload_n 0, 1) := by decide +kernel
theorem dX4_owner_11 : decode cX4_owner 11 = .ok (.getfield 9, 3) := by decide +kernel
theorem dX4_owner_14 : decode cX4_owner 14 = .ok (.iload_n 2, 1) := by decide +kernel
theorem dX4_owner_15 : decode cX4_owner 15 = .ok (.iaload, 1) := by decide +kernel
theorem dX4_owner_16 : decode cX4_owner 16 = .ok (.iload_n 1, 1) := by decide +kernel
theorem dX4_owner_17 : decode cX4_owner 17 = .ok (.if_icmp .ne 5, 3) := by decide +kernel
theorem dX4_owner_20 : decode cX4_owner 20 = .ok (.iload_n 2, 1) := by decide +kernel
theorem dX4_owner_21 : decode cX4_owner 21 = .ok (.ireturn, 1) := by decide +kernel
theorem dX4_owner_22 : decode cX4_owner 22 = .ok (.iinc 2 1, 3) := by decide +kernel
theorem dX4_owner_25 : decode cX4_owner 25 = .ok (.goto (-23), 3) := by decide +kernel
theorem dX4_owner_28 : decode cX4_owner 28 = .ok (.iconst (-1), 1) := by decide +kernel
theorem dX4_owner_29 : decode cX4_owner 29 = .ok (.ireturn, 1) := by decide +kernel
set_option maxRecDepth 20000 in
theorem ggX4_aim_X4_owner : GoodIn wsX4_aim wsX4_owner := goodIn_r _ [9, 10, 11, 17, 18, 19, 20, 21, 22, 23, 24, 25, 26, 27, 28, 29, 30, 31, 32] (by decide +kernel) (by decide +kernel)
set_option maxRecDepth 20000 in
theorem gX4_aim_X4_owner : GoodIn wsX4_aim (wsV RX4 70 RX4 yX4_owner wsX4_owner) := goodIn_app (goodIn_of _ (by decide +kernel)) ggX4_aim_X4_owner
set_option maxRecDepth 20000 in
theorem ggX4_aim_X4_li : GoodIn wsX4_aim wsX4_li := goodIn_r _ [15, 16, 17, 18, 19, 20, 21, 22, 23, 24, 25, 26, 27, 28, 29, 30, 31, 32] (by decide +kernel) (by decide +kernel)
set_option maxRecDepth 20000 in
theorem gX4_aim_X4_li : GoodIn wsX4_aim (wsV RX4 59 RX4 yX4_li wsX4_li) := goodIn_app (goodIn_of _ (by decide +kernel)) ggX4_aim_X4_li
theorem dX4_aim_0 : decode cX4_aim 0 = .ok (.iload_n 1, 1) := by decide +kernel
theorem dX4_aim_1 : decode cX4_aim 1 = .ok (.aload_n 0, 1) := by decide +kernel
theorem dX4_aim_2 : decode cX4_aim 2 = .ok (.getfield 39, 3) := by decide +kernel
theorem dX4_aim_5 : decode cX4_aim 5 = .ok (.if_icmp .ne 40, 3) := by decide +kernel
theorem dX4_aim_8 : decode cX4_aim 8 = .ok (.aload_n 0, 1) := by decide +kernel
theorem dX4_aim_9 : decode cX4_aim 9 = .ok (.getfield 42, 3) := by decide +kernel
theorem dX4_aim_12 : decode cX4_aim 12 = .ok (.iconst (-1), 1) := by decide +kernel
theorem dX4_aim_13 : decode cX4_aim 13 = .ok (.if_icmp .eq 30, 3) := by decide +kernel
theorem dX4_aim_16 : decode cX4_aim 16 = .ok (.aload_n 0, 1) := by decide +kernel
theorem dX4_aim_17 : decode cX4_aim 17 = .ok (.getfield 31, 3) := by decide +kernel
theorem dX4_aim_20 : decode cX4_aim 20 = .ok (.aload_n 0, 1) := by decide +kernel
theorem dX4_aim_21 : decode cX4_aim 21 = .ok (.aload_n 0, 1) := by decide +kernel
theorem dX4_aim_22 : decode cX4_aim 22 = .ok (.getfield 42, 3) := by decide +kernel
theorem dX4_aim_25 : decode cX4_aim 25 = .ok (.invokevirtual 70, 3) := by decide +kernel
theorem dX4_aim_28 : decode cX4_aim 28 = .ok (.baload, 1) := by decide +kernel
theorem dX4_aim_29 : decode cX4_aim 29 = .ok (.ifCond .eq 14, 3) := by decide +kernel
theorem dX4_aim_32 : decode cX4_aim 32 = .ok (.aload_n 0, 1) := by decide +kernel
theorem dX4_aim_33 : decode cX4_aim 33 = .ok (.aload_n 0, 1) := by decide +kernel
theorem dX4_aim_34 : decode cX4_aim 34 = .ok (.getfield 42, 3) := by decide +kernel
theorem dX4_aim_37 : decode cX4_aim 37 = .ok (.invokevirtual 70, 3) := by decide +kernel
theorem dX4_aim_40 : decode cX4_aim 40 = .ok (.goto 4, 3) := by decide +kernel
theorem dX4_aim_43 : decode cX4_aim 43 = .ok (.iload_n 1, 1) := by decide +kernel
theorem dX4_aim_44 : decode cX4_aim 44 = .ok (.ireturn, 1) := by decide +kernel
theorem dX4_aim_45 : decode cX4_aim 45 = .ok (.iconst 0, 1) := by decide +kernel
theorem dX4_aim_46 : decode cX4_aim 46 = .ok (.istore_n 2, 1) := by decide +kernel
theorem dX4_aim_47 : decode cX4_aim 47 = .ok (.iload_n 2, 1) := by decide +kernel
theorem dX4_aim_48 : decode cX4_aim 48 = .ok (.aload_n 0, 1) := by decide +kernel
theorem dX4_aim_49 : decode cX4_aim 49 = .ok (.getfield 13, 3) := by decide +kernel
theorem dX4_aim_52 : decode cX4_aim 52 = .ok (.iload_n 1, 1) := by decide +kernel
theorem dX4_aim_53 : decode cX4_aim 53 = .ok (.iaload, 1) := by decide +kernel
theorem dX4_aim_54 : decode cX4_aim 54 = .ok (.if_icmp .ge 38, 3) := by decide +kernel
theorem dX4_aim_57 : decode cX4_aim 57 = .ok (.aload_n 0, 1) := by decide +kernel
theorem dX4_aim_58 : decode cX4_aim 58 = .ok (.getfield 31, 3) := by decide +kernel
theorem dX4_aim_61 : decode cX4_aim 61 = .ok (.aload_n 0, 1) := by decide +kernel
theorem dX4_aim_62 : decode cX4_aim 62 = .ok (.aload_n 0, 1) := by decide +kernel
theorem dX4_aim_63 : decode cX4_aim 63 = .ok (.iload_n 1, 1) := by decide +kernel
theorem dX4_aim_64 : decode cX4_aim 64 = .ok (.iload_n 2, 1) := by decide +kernel
theorem dX4_aim_65 : decode cX4_aim 65 = .ok (.invokevirtual 59, 3) := by decide +kernel
theorem dX4_aim_68 : decode cX4_aim 68 = .ok (.invokevirtual 70, 3) := by decide +kernel
theorem dX4_aim_71 : decode cX4_aim 71 = .ok (.baload, 1) := by decide +kernel
theorem dX4_aim_72 : decode cX4_aim 72 = .ok (.ifCond .eq 14, 3) := by decide +kernel
theorem dX4_aim_75 : decode cX4_aim 75 = .ok (.aload_n 0, 1) := by decide +kernel
theorem dX4_aim_76 : decode cX4_aim 76 = .ok (.aload_n 0, 1) := by decide +kernel
theorem dX4_aim_77 : decode cX4_aim 77 = .ok (.iload_n 1, 1) := by decide +kernel
theorem dX4_aim_78 : decode cX4_aim 78 = .ok (.iload_n 2, 1) := by decide +kernel
theorem dX4_aim_79 : decode cX4_aim 79 = .ok (.invokevirtual 59, 3) := by decide +kernel
theorem dX4_aim_82 : decode cX4_aim 82 = .ok (.invokevirtual 70, 3) := by decide +kernel
theorem dX4_aim_85 : decode cX4_aim 85 = .ok (.ireturn, 1) := by decide +kernel
theorem dX4_aim_86 : decode cX4_aim 86 = .ok (.iinc 2 1, 3) := by decide +kernel
theorem dX4_aim_89 : decode cX4_aim 89 = .ok (.goto (-42), 3) := by decide +kernel
theorem dX4_aim_92 : decode cX4_aim 92 = .ok (.iload_n 1, 1) := by decide +kernel
theorem dX4_aim_93 : decode cX4_aim 93 = .ok (.ireturn, 1) := by decide +kernel
theorem dX4_around_0 : decode cX4_around 0 = .ok (.iconst 1, 1) := by decide +kernel
theorem dX4_around_1 : decode cX4_around 1 = .ok (.istore_n 2, 1) := by decide +kernel
theorem dX4_around_2 : decode cX4_around 2 = .ok (.aload_n 0, 1) := by decide +kernel
theorem dX4_around_3 : decode cX4_around 3 = .ok (.getfield 28, 3) := by decide +kernel
theorem dX4_around_6 : decode cX4_around 6 = .ok (.iload_n 1, 1) := by decide +kernel
theorem dX4_around_7 : decode cX4_around 7 = .ok (.iaload, 1) := by decide +kernel
theorem dX4_around_8 : decode cX4_around 8 = .ok (.istore_n 3, 1) := by decide +kernel
theorem dX4_around_9 : decode cX4_around 9 = .ok (.iload_n 3, 1) := by decide +kernel
theorem dX4_around_10 : decode cX4_around 10 = .ok (.iload_n 1, 1) := by decide +kernel
theorem dX4_around_11 : decode cX4_around 11 = .ok (.if_icmp .eq 24, 3) := by decide +kernel
theorem dX4_around_14 : decode cX4_around 14 = .ok (.iload_n 2, 1) := by decide +kernel
theorem dX4_around_15 : decode cX4_around 15 = .ok (.aload_n 0, 1) := by decide +kernel
theorem dX4_around_16 : decode cX4_around 16 = .ok (.getfield 48, 3) := by decide +kernel
theorem dX4_around_19 : decode cX4_around 19 = .ok (.if_icmp .gt 16, 3) := by decide +kernel
theorem dX4_around_22 : decode cX4_around 22 = .ok (.aload_n 0, 1) := by decide +kernel
theorem dX4_around_23 : decode cX4_around 23 = .ok (.getfield 28, 3) := by decide +kernel
theorem dX4_around_26 : decode cX4_around 26 = .ok (.iload_n 3, 1) := by decide +kernel
theorem dX4_around_27 : decode cX4_around 27 = .ok (.iaload, 1) := by decide +kernel
theorem dX4_around_28 : decode cX4_around 28 = .ok (.istore_n 3, 1) := by decide +kernel
theorem dX4_around_29 : decode cX4_around 29 = .ok (.iinc 2 1, 3) := by decide +kernel
theorem dX4_around_32 : decode cX4_around 32 = .ok (.goto (-23), 3) := by decide +kernel
theorem dX4_around_35 : decode cX4_around 35 = .ok (.iload_n 3, 1) := by decide +kernel
theorem dX4_around_36 : decode cX4_around 36 = .ok (.iload_n 1, 1) := by decide +kernel
theorem dX4_around_37 : decode cX4_around 37 = .ok (.if_icmp .ne 7, 3) := by decide +kernel
theorem dX4_around_40 : decode cX4_around 40 = .ok (.iload_n 2, 1) := by decide +kernel
theorem dX4_around_41 : decode cX4_around 41 = .ok (.goto 4, 3) := by decide +kernel
theorem dX4_around_44 : decode cX4_around 44 = .ok (.iconst 0, 1) := by decide +kernel
theorem dX4_around_45 : decode cX4_around 45 = .ok (.ireturn, 1) := by decide +kernel
set_option maxRecDepth 20000 in
theorem ggX4_aimAll_X4_aim : GoodIn wsX4_aimAll wsX4_aim := goodIn_r _ [8, 9, 10, 3, 11, 12, 13, 14, 7, 15, 1, 16, 17, 18, 19, 20, 21, 22, 23, 24, 25, 26, 27, 28, 29, 30, 31, 32, 33, 34, 35, 36, 37] (by decide +kernel) (by decide +kernel)
set_option maxRecDepth 20000 in
theorem gX4_aimAll_X4_aim : GoodIn wsX4_aimAll (wsV RX4 73 RX4 yX4_aim wsX4_aim) := goodIn_app (goodIn_of _ (by decide +kernel)) ggX4_aimAll_X4_aim
theorem dX4_aimAll_0 : decode cX4_aimAll 0 = .ok (.iconst 0, 1) := by decide +kernel
theorem dX4_aimAll_1 : decode cX4_aimAll 1 = .ok (.istore_n 1, 1) := by decide +kernel
theorem dX4_aimAll_2 : decode cX4_aimAll 2 = .ok (.iload_n 1, 1) := by decide +kernel
theorem dX4_aimAll_3 : decode cX4_aimAll 3 = .ok (.aload_n 0, 1) := by decide +kernel
theorem dX4_aimAll_4 : decode cX4_aimAll 4 = .ok (.getfield 48, 3) := by decide +kernel
theorem dX4_aimAll_7 : decode cX4_aimAll 7 = .ok (.if_icmp .ge 33, 3) := by decide +kernel
theorem dX4_aimAll_10 : decode cX4_aimAll 10 = .ok (.aload_n 0, 1) := by decide +kernel
theorem dX4_aimAll_11 : decode cX4_aimAll 11 = .ok (.getfield 28, 3) := by decide +kernel
theorem dX4_aimAll_14 : decode cX4_aimAll 14 = .ok (.iload_n 1, 1) := by decide +kernel
theorem dX4_aimAll_15 : decode cX4_aimAll 15 = .ok (.aload_n 0, 1) := by decide +kernel
theorem dX4_aimAll_16 : decode cX4_aimAll 16 = .ok (.getfield 31, 3) := by decide +kernel
theorem dX4_aimAll_19 : decode cX4_aimAll 19 = .ok (.iload_n 1, 1) := by decide +kernel
theorem dX4_aimAll_20 : decode cX4_aimAll 20 = .ok (.baload, 1) := by decide +kernel
theorem dX4_aimAll_21 : decode cX4_aimAll 21 = .ok (.ifCond .eq 11, 3) := by decide +kernel
theorem dX4_aimAll_24 : decode cX4_aimAll 24 = .ok (.aload_n 0, 1) := by decide +kernel
theorem dX4_aimAll_25 : decode cX4_aimAll 25 = .ok (.iload_n 1, 1) := by decide +kernel
theorem dX4_aimAll_26 : decode cX4_aimAll 26 = .ok (.invokevirtual 73, 3) := by decide +kernel
theorem dX4_aimAll_29 : decode cX4_aimAll 29 = .ok (.goto 4, 3) := by decide +kernel
theorem dX4_aimAll_32 : decode cX4_aimAll 32 = .ok (.iconst (-1), 1) := by decide +kernel
theorem dX4_aimAll_33 : decode cX4_aimAll 33 = .ok (.iastore, 1) := by decide +kernel
theorem dX4_aimAll_34 : decode cX4_aimAll 34 = .ok (.iinc 1 1, 3) := by decide +kernel
theorem dX4_aimAll_37 : decode cX4_aimAll 37 = .ok (.goto (-35), 3) := by decide +kernel
theorem dX4_aimAll_40 : decode cX4_aimAll 40 = .ok (.return_, 1) := by decide +kernel
theorem dX4_begin_0 : decode cX4_begin 0 = .ok (.iconst 0, 1) := by decide +kernel
theorem dX4_begin_1 : decode cX4_begin 1 = .ok (.istore_n 1, 1) := by decide +kernel
theorem dX4_begin_2 : decode cX4_begin 2 = .ok (.iload_n 1, 1) := by decide +kernel
theorem dX4_begin_3 : decode cX4_begin 3 = .ok (.aload_n 0, 1) := by decide +kernel
theorem dX4_begin_4 : decode cX4_begin 4 = .ok (.getfield 48, 3) := by decide +kernel
theorem dX4_begin_7 : decode cX4_begin 7 = .ok (.if_icmp .ge 28, 3) := by decide +kernel
theorem dX4_begin_10 : decode cX4_begin 10 = .ok (.aload_n 0, 1) := by decide +kernel
theorem dX4_begin_11 : decode cX4_begin 11 = .ok (.getfield 31, 3) := by decide +kernel
theorem dX4_begin_14 : decode cX4_begin 14 = .ok (.iload_n 1, 1) := by decide +kernel
theorem dX4_begin_15 : decode cX4_begin 15 = .ok (.iload_n 1, 1) := by decide +kernel
theorem dX4_begin_16 : decode cX4_begin 16 = .ok (.aload_n 0, 1) := by decide +kernel
theorem dX4_begin_17 : decode cX4_begin 17 = .ok (.getfield 35, 3) := by decide +kernel
theorem dX4_begin_20 : decode cX4_begin 20 = .ok (.if_icmp .eq 7, 3) := by decide +kernel
theorem dX4_begin_23 : decode cX4_begin 23 = .ok (.iconst 1, 1) := by decide +kernel
theorem dX4_begin_24 : decode cX4_begin 24 = .ok (.goto 4, 3) := by decide +kernel
theorem dX4_begin_27 : decode cX4_begin 27 = .ok (.iconst 0, 1) := by decide +kernel
theorem dX4_begin_28 : decode cX4_begin 28 = .ok (.bastore, 1) := by decide +kernel
theorem dX4_begin_29 : decode cX4_begin 29 = .ok (.iinc 1 1, 3) := by decide +kernel
theorem dX4_begin_32 : decode cX4_begin 32 = .ok (.goto (-30), 3) := by decide +kernel
theorem dX4_begin_35 : decode cX4_begin 35 = .ok (.aload_n 0, 1) := by decide +kernel
theorem dX4_begin_36 : decode cX4_begin 36 = .ok (.iconst 0, 1) := by decide +kernel
theorem dX4_begin_37 : decode cX4_begin 37 = .ok (.putfield 76, 3) := by decide +kernel
theorem dX4_begin_40 : decode cX4_begin 40 = .ok (.aload_n 0, 1) := by decide +kernel
theorem dX4_begin_41 : decode cX4_begin 41 = .ok (.iconst 0, 1) := by decide +kernel
theorem dX4_begin_42 : decode cX4_begin 42 = .ok (.putfield 79, 3) := by decide +kernel
theorem dX4_begin_45 : decode cX4_begin 45 = .ok (.aload_n 0, 1) := by decide +kernel
theorem dX4_begin_46 : decode cX4_begin 46 = .ok (.iconst 0, 1) := by decide +kernel
theorem dX4_begin_47 : decode cX4_begin 47 = .ok (.putfield 82, 3) := by decide +kernel
theorem dX4_begin_50 : decode cX4_begin 50 = .ok (.return_, 1) := by decide +kernel
theorem dX4_isAnybody_0 : decode cX4_isAnybody 0 = .ok (.iconst 0, 1) := by decide +kernel
theorem dX4_isAnybody_1 : decode cX4_isAnybody 1 = .ok (.istore_n 1, 1) := by decide +kernel
theorem dX4_isAnybody_2 : decode cX4_isAnybody 2 = .ok (.iload_n 1, 1) := by decide +kernel
theorem dX4_isAnybody_3 : decode cX4_isAnybody 3 = .ok (.aload_n 0, 1) := by decide +kernel
theorem dX4_isAnybody_4 : decode cX4_isAnybody 4 = .ok (.getfield 48, 3) := by decide +kernel
theorem dX4_isAnybody_7 : decode cX4_isAnybody 7 = .ok (.if_icmp .ge 20, 3) := by decide +kernel
theorem dX4_isAnybody_10 : decode cX4_isAnybody 10 = .ok (.aload_n 0, 1) := by decide +kernel
theorem dX4_isAnybody_11 : decode cX4_isAnybody 11 = .ok (.getfield 31, 3) := by decide +kernel
theorem dX4_isAnybody_14 : decode cX4_isAnybody 14 = .ok (.iload_n 1, 1) := by decide +kernel
theorem dX4_isAnybody_15 : decode cX4_isAnybody 15 = .ok (.baload, 1) := by decide +kernel
theorem dX4_isAnybody_16 : decode cX4_isAnybody 16 = .ok (.ifCond .eq 5, 3) := by decide +kernel
theorem dX4_isAnybody_19 : decode cX4_isAnybody 19 = .ok (.iconst 1, 1) := by decide +kernel
theorem dX4_isAnybody_20 : decode cX4_isAnybody 20 = .ok (.ireturn, 1) := by decide +kernel
theorem dX4_isAnybody_21 : decode cX4_isAnybody 21 = .ok (.iinc 1 1, 3) := by decide +kernel
theorem dX4_isAnybody_24 : decode cX4_isAnybody 24 = .ok (.goto (-22), 3) := by decide +kernel
theorem dX4_isAnybody_27 : decode cX4_isAnybody 27 = .ok (.iconst 0, 1) := by decide +kernel
theorem dX4_isAnybody_28 : decode cX4_isAnybody 28 = .ok (.ireturn, 1) := by decide +kernel
set_option maxRecDepth 20000 in
theorem ggX4_roundOn_X4_aimAll : GoodIn wsX4_roundOn wsX4_aimAll := goodIn_r _ [19, 2, 7, 4, 20, 21, 22, 18, 23, 24, 25, 26, 27, 28, 29, 30, 6, 31, 32, 33, 34, 35, 40, 41, 42, 43, 44, 45, 46, 47, 48, 49, 50, 51, 52, 53, 54, 55] (by decide +kernel) (by decide +kernel)
set_option maxRecDepth 20000 in
theorem gX4_roundOn_X4_aimAll : GoodIn wsX4_roundOn (wsV RX4 85 RX4 yX4_aimAll wsX4_aimAll) := goodIn_app (goodIn_of _ (by decide +kernel)) ggX4_roundOn_X4_aimAll
set_option maxRecDepth 20000 in
theorem ggX4_roundOn_X4_around : GoodIn wsX4_roundOn wsX4_around := goodIn_r _ [39, 7, 2, 40, 41, 42, 43, 44, 45, 46, 47, 48, 49, 50, 51, 52, 53, 54, 55] (by decide +kernel) (by decide +kernel)
set_option maxRecDepth 20000 in
theorem gX4_roundOn_X4_around : GoodIn wsX4_roundOn (wsV RX4 88 RX4 yX4_around wsX4_around) := goodIn_app (goodIn_of _ (by decide +kernel)) ggX4_roundOn_X4_around
theorem dX4_roundOn_0 : decode cX4_roundOn 0 = .ok (.aload_n 0, 1) := by decide +kernel
theorem dX4_roundOn_1 : decode cX4_roundOn 1 = .ok (.dup, 1) := by decide +kernel
theorem dX4_roundOn_2 : decode cX4_roundOn 2 = .ok (.getfield 76, 3) := by decide +kernel
theorem dX4_roundOn_5 : decode cX4_roundOn 5 = .ok (.iconst 1, 1) := by decide +kernel
theorem dX4_roundOn_6 : decode cX4_roundOn 6 = .ok (.iadd, 1) := by decide +kernel
theorem dX4_roundOn_7 : decode cX4_roundOn 7 = .ok (.putfield 76, 3) := by decide +kernel
theorem dX4_roundOn_10 : decode cX4_roundOn 10 = .ok (.aload_n 0, 1) := by decide +kernel
theorem dX4_roundOn_11 : decode cX4_roundOn 11 = .ok (.invokevirtual 85, 3) := by decide +kernel
theorem dX4_roundOn_14 : decode cX4_roundOn 14 = .ok (.iconst 0, 1) := by decide +kernel
theorem dX4_roundOn_15 : decode cX4_roundOn 15 = .ok (.istore_n 1, 1) := by decide +kernel
theorem dX4_roundOn_16 : decode cX4_roundOn 16 = .ok (.iconst 0, 1) := by decide +kernel
theorem dX4_roundOn_17 : decode cX4_roundOn 17 = .ok (.istore_n 2, 1) := by decide +kernel
theorem dX4_roundOn_18 : decode cX4_roundOn 18 = .ok (.iload_n 2, 1) := by decide +kernel
theorem dX4_roundOn_19 : decode cX4_roundOn 19 = .ok (.aload_n 0, 1) := by decide +kernel
theorem dX4_roundOn_20 : decode cX4_roundOn 20 = .ok (.getfield 48, 3) := by decide +kernel
theorem dX4_roundOn_23 : decode cX4_roundOn 23 = .ok (.if_icmp .ge 169, 3) := by decide +kernel
theorem dX4_roundOn_26 : decode cX4_roundOn 26 = .ok (.aload_n 0, 1) := by decide +kernel
theorem dX4_roundOn_27 : decode cX4_roundOn 27 = .ok (.getfield 25, 3) := by decide +kernel
theorem dX4_roundOn_30 : decode cX4_roundOn 30 = .ok (.iload_n 2, 1) := by decide +kernel
theorem dX4_roundOn_31 : decode cX4_roundOn 31 = .ok (.aload_n 0, 1) := by decide +kernel
theorem dX4_roundOn_32 : decode cX4_roundOn 32 = .ok (.getfield 31, 3) := by decide +kernel
theorem dX4_roundOn_35 : decode cX4_roundOn 35 = .ok (.iload_n 2, 1) := by decide +kernel
theorem dX4_roundOn_36 : decode cX4_roundOn 36 = .ok (.baload, 1) := by decide +kernel
theorem dX4_roundOn_37 : decode cX4_roundOn 37 = .ok (.ifCond .eq 11, 3) := by decide +kernel
theorem dX4_roundOn_40 : decode cX4_roundOn 40 = .ok (.aload_n 0, 1) := by decide +kernel
theorem dX4_roundOn_41 : decode cX4_roundOn 41 = .ok (.iload_n 2, 1) := by decide +kernel
theorem dX4_roundOn_42 : decode cX4_roundOn 42 = .ok (.invokevirtual 88, 3) := by decide +kernel
theorem dX4_roundOn_45 : decode cX4_roundOn 45 = .ok (.goto 9, 3) := by decide +kernel
theorem dX4_roundOn_48 : decode cX4_roundOn 48 = .ok (.aload_n 0, 1) := by decide +kernel
theorem dX4_roundOn_49 : decode cX4_roundOn 49 = .ok (.getfield 25, 3) := by decide +kernel
theorem dX4_roundOn_52 : decode cX4_roundOn 52 = .ok (.iload_n 2, 1) := by decide +kernel
theorem dX4_roundOn_53 : decode cX4_roundOn 53 = .ok (.iaload, 1) := by decide +kernel
theorem dX4_roundOn_54 : decode cX4_roundOn 54 = .ok (.iastore, 1) := by decide +kernel
theorem dX4_roundOn_55 : decode cX4_roundOn 55 = .ok (.aload_n 0, 1) := by decide +kernel
theorem dX4_roundOn_56 : decode cX4_roundOn 56 = .ok (.getfield 31, 3) := by decide +kernel
theorem dX4_roundOn_59 : decode cX4_roundOn 59 = .ok (.iload_n 2, 1) := by decide +kernel
theorem dX4_roundOn_60 : decode cX4_roundOn 60 = .ok (.baload, 1) := by decide +kernel
theorem dX4_roundOn_61 : decode cX4_roundOn 61 = .ok (.ifCond .eq 125, 3) := by decide +kernel
theorem dX4_roundOn_64 : decode cX4_roundOn 64 = .ok (.aload_n 0, 1) := by decide +kernel
theorem dX4_roundOn_65 : decode cX4_roundOn 65 = .ok (.getfield 25, 3) := by decide +kernel
theorem dX4_roundOn_68 : decode cX4_roundOn 68 = .ok (.iload_n 2, 1) := by decide +kernel
theorem dX4_roundOn_69 : decode cX4_roundOn 69 = .ok (.iaload, 1) := by decide +kernel
theorem dX4_roundOn_70 : decode cX4_roundOn 70 = .ok (.ifCond .ne 6, 3) := by decide +kernel
theorem dX4_roundOn_73 : decode cX4_roundOn 73 = .ok (.goto 113, 3) := by decide +kernel
theorem dX4_roundOn_76 : decode cX4_roundOn 76 = .ok (.aload_n 0, 1) := by decide +kernel
theorem dX4_roundOn_77 : decode cX4_roundOn 77 = .ok (.getfield 19, 3) := by decide +kernel
theorem dX4_roundOn_80 : decode cX4_roundOn 80 = .ok (.iload_n 2, 1) := by decide +kernel
theorem dX4_roundOn_81 : decode cX4_roundOn 81 = .ok (.aload_n 0, 1) := by decide +kernel
theorem dX4_roundOn_82 : decode cX4_roundOn 82 = .ok (.getfield 9, 3) := by decide +kernel
theorem dX4_roundOn_85 : decode cX4_roundOn 85 = .ok (.aload_n 0, 1) := by decide +kernel
theorem dX4_roundOn_86 : decode cX4_roundOn 86 = .ok (.getfield 28, 3) := by decide +kernel
theorem dX4_roundOn_89 : decode cX4_roundOn 89 = .ok (.iload_n 2, 1) := by decide +kernel
theorem dX4_roundOn_90 : decode cX4_roundOn 90 = .ok (.iaload, 1) := by decide +kernel
theorem dX4_roundOn_91 : decode cX4_roundOn 91 = .ok (.iaload, 1) := by decide +kernel
theorem dX4_roundOn_92 : decode cX4_roundOn 92 = .ok (.iastore, 1) := by decide +kernel
theorem dX4_roundOn_93 : decode cX4_roundOn 93 = .ok (.aload_n 0, 1) := by decide +kernel
theorem dX4_roundOn_94 : decode cX4_roundOn 94 = .ok (.getfield 22, 3) := by decide +kernel
theorem dX4_roundOn_97 : decode cX4_roundOn 97 = .ok (.iload_n 2, 1) := by decide +kernel
theorem dX4_roundOn_98 : decode cX4_roundOn 98 = .ok (.aload_n 0, 1) := by decide +kernel
theorem dX4_roundOn_99 : decode cX4_roundOn 99 = .ok (.getfield 76, 3) := by decide +kernel
theorem dX4_roundOn_102 : decode cX4_roundOn 102 = .ok (.iastore, 1) := by decide +kernel
theorem dX4_roundOn_103 : decode cX4_roundOn 103 = .ok (.aload_n 0, 1) := by decide +kernel
theorem dX4_roundOn_104 : decode cX4_roundOn 104 = .ok (.aload_n 0, 1) := by decide +kernel
theorem dX4_roundOn_105 : decode cX4_roundOn 105 = .ok (.getfield 82, 3) := by decide +kernel
theorem dX4_roundOn_108 : decode cX4_roundOn 108 = .ok (.aload_n 0, 1) := by decide +kernel
theorem dX4_roundOn_109 : decode cX4_roundOn 109 = .ok (.getfield 25, 3) := by decide +kernel
theorem dX4_roundOn_112 : decode cX4_roundOn 112 = .ok (.iload_n 2, 1) := by decide +kernel
theorem dX4_roundOn_113 : decode cX4_roundOn 113 = .ok (.iaload, 1) := by decide +kernel
theorem dX4_roundOn_114 : decode cX4_roundOn 114 = .ok (.invokestatic 91, 3) := by decide +kernel
theorem dX4_roundOn_117 : decode cX4_roundOn 117 = .ok (.putfield 82, 3) := by decide +kernel
theorem dX4_roundOn_120 : decode cX4_roundOn 120 = .ok (.iconst 1, 1) := by decide +kernel
theorem dX4_roundOn_121 : decode cX4_roundOn 121 = .ok (.istore_n 3, 1) := by decide +kernel
theorem dX4_roundOn_122 : decode cX4_roundOn 122 = .ok (.aload_n 0, 1) := by decide +kernel
theorem dX4_roundOn_123 : decode cX4_roundOn 123 = .ok (.getfield 28, 3) := by decide +kernel
theorem dX4_roundOn_126 : decode cX4_roundOn 126 = .ok (.iload_n 2, 1) := by decide +kernel
theorem dX4_roundOn_127 : decode cX4_roundOn 127 = .ok (.iaload, 1) := by decide +kernel
theorem dX4_roundOn_128 : decode cX4_roundOn 128 = .ok (.istore 4, 2) := by decide +kernel
theorem dX4_roundOn_130 : decode cX4_roundOn 130 = .ok (.iload 4, 2) := by decide +kernel
theorem dX4_roundOn_132 : decode cX4_roundOn 132 = .ok (.iload_n 2, 1) := by decide +kernel
theorem dX4_roundOn_133 : decode cX4_roundOn 133 = .ok (.if_icmp .eq 31, 3) := by decide +kernel
theorem dX4_roundOn_136 : decode cX4_roundOn 136 = .ok (.iload_n 3, 1) := by decide +kernel
theorem dX4_roundOn_137 : decode cX4_roundOn 137 = .ok (.ifCond .eq 13, 3) := by decide +kernel
theorem dX4_roundOn_140 : decode cX4_roundOn 140 = .ok (.iload 4, 2) := by decide +kernel
theorem dX4_roundOn_142 : decode cX4_roundOn 142 = .ok (.iload_n 2, 1) := by decide +kernel
theorem dX4_roundOn_143 : decode cX4_roundOn 143 = .ok (.if_icmp .le 7, 3) := by decide +kernel
theorem dX4_roundOn_146 : decode cX4_roundOn 146 = .ok (.iconst 1, 1) := by decide +kernel
theorem dX4_roundOn_147 : decode cX4_roundOn 147 = .ok (.goto 4, 3) := by decide +kernel
theorem dX4_roundOn_150 : decode cX4_roundOn 150 = .ok (.iconst 0, 1) := by decide +kernel
theorem dX4_roundOn_151 : decode cX4_roundOn 151 = .ok (.istore_n 3, 1) := by decide +kernel
theorem dX4_roundOn_152 : decode cX4_roundOn 152 = .ok (.aload_n 0, 1) := by decide +kernel
theorem dX4_roundOn_153 : decode cX4_roundOn 153 = .ok (.getfield 28, 3) := by decide +kernel
theorem dX4_roundOn_156 : decode cX4_roundOn 156 = .ok (.iload 4, 2) := by decide +kernel
theorem dX4_roundOn_158 : decode cX4_roundOn 158 = .ok (.iaload, 1) := by decide +kernel
theorem dX4_roundOn_159 : decode cX4_roundOn 159 = .ok (.istore 4, 2) := by decide +kernel
theorem dX4_roundOn_161 : decode cX4_roundOn 161 = .ok (.goto (-31), 3) := by decide +kernel
theorem dX4_roundOn_164 : decode cX4_roundOn 164 = .ok (.iload_n 1, 1) := by decide +kernel
theorem dX4_roundOn_165 : decode cX4_roundOn 165 = .ok (.iload_n 3, 1) := by decide +kernel
theorem dX4_roundOn_166 : decode cX4_roundOn 166 = .ok (.ifCond .eq 17, 3) := by decide +kernel
theorem dX4_roundOn_169 : decode cX4_roundOn 169 = .ok (.aload_n 0, 1) := by decide +kernel
theorem dX4_roundOn_170 : decode cX4_roundOn 170 = .ok (.getfield 25, 3) := by decide +kernel
theorem dX4_roundOn_173 : decode cX4_roundOn 173 = .ok (.iload_n 2, 1) := by decide +kernel
theorem dX4_roundOn_174 : decode cX4_roundOn 174 = .ok (.iaload, 1) := by decide +kernel
theorem dX4_roundOn_175 : decode cX4_roundOn 175 = .ok (.iconst 1, 1) := by decide +kernel
theorem dX4_roundOn_176 : decode cX4_roundOn 176 = .ok (.if_icmp .le 7, 3) := by decide +kernel
theorem dX4_roundOn_179 : decode cX4_roundOn 179 = .ok (.iconst 1, 1) := by decide +kernel
theorem dX4_roundOn_180 : decode cX4_roundOn 180 = .ok (.goto 4, 3) := by decide +kernel
theorem dX4_roundOn_183 : decode cX4_roundOn 183 = .ok (.iconst 0, 1) := by decide +kernel
theorem dX4_roundOn_184 : decode cX4_roundOn 184 = .ok (.iadd, 1) := by decide +kernel
theorem dX4_roundOn_185 : decode cX4_roundOn 185 = .ok (.istore_n 1, 1) := by decide +kernel
theorem dX4_roundOn_186 : decode cX4_roundOn 186 = .ok (.iinc 2 1, 3) := by decide +kernel
theorem dX4_roundOn_189 : decode cX4_roundOn 189 = .ok (.goto (-171), 3) := by decide +kernel
theorem dX4_roundOn_192 : decode cX4_roundOn 192 = .ok (.aload_n 0, 1) := by decide +kernel
theorem dX4_roundOn_193 : decode cX4_roundOn 193 = .ok (.dup, 1) := by decide +kernel
theorem dX4_roundOn_194 : decode cX4_roundOn 194 = .ok (.getfield 79, 3) := by decide +kernel
theorem dX4_roundOn_197 : decode cX4_roundOn 197 = .ok (.iload_n 1, 1) := by decide +kernel
theorem dX4_roundOn_198 : decode cX4_roundOn 198 = .ok (.iadd, 1) := by decide +kernel
theorem dX4_roundOn_199 : decode cX4_roundOn 199 = .ok (.putfield 79, 3) := by decide +kernel
theorem dX4_roundOn_202 : decode cX4_roundOn 202 = .ok (.iconst 0, 1) := by decide +kernel
theorem dX4_roundOn_203 : decode cX4_roundOn 203 = .ok (.istore_n 2, 1) := by decide +kernel
theorem dX4_roundOn_204 : decode cX4_roundOn 204 = .ok (.iload_n 2, 1) := by decide +kernel
theorem dX4_roundOn_205 : decode cX4_roundOn 205 = .ok (.aload_n 0, 1) := by decide +kernel
theorem dX4_roundOn_206 : decode cX4_roundOn 206 = .ok (.getfield 48, 3) := by decide +kernel
theorem dX4_roundOn_209 : decode cX4_roundOn 209 = .ok (.if_icmp .ge 34, 3) := by decide +kernel
theorem dX4_roundOn_212 : decode cX4_roundOn 212 = .ok (.aload_n 0, 1) := by decide +kernel
theorem dX4_roundOn_213 : decode cX4_roundOn 213 = .ok (.getfield 31, 3) := by decide +kernel
theorem dX4_roundOn_216 : decode cX4_roundOn 216 = .ok (.iload_n 2, 1) := by decide +kernel
theorem dX4_roundOn_217 : decode cX4_roundOn 217 = .ok (.baload, 1) := by decide +kernel
theorem dX4_roundOn_218 : decode cX4_roundOn 218 = .ok (.ifCond .eq 19, 3) := by decide +kernel
theorem dX4_roundOn_221 : decode cX4_roundOn 221 = .ok (.aload_n 0, 1) := by decide +kernel
theorem dX4_roundOn_222 : decode cX4_roundOn 222 = .ok (.getfield 25, 3) := by decide +kernel
theorem dX4_roundOn_225 : decode cX4_roundOn 225 = .ok (.iload_n 2, 1) := by decide +kernel
theorem dX4_roundOn_226 : decode cX4_roundOn 226 = .ok (.iaload, 1) := by decide +kernel
theorem dX4_roundOn_227 : decode cX4_roundOn 227 = .ok (.ifCond .le 10, 3) := by decide +kernel
theorem dX4_roundOn_230 : decode cX4_roundOn 230 = .ok (.aload_n 0, 1) := by decide +kernel
theorem dX4_roundOn_231 : decode cX4_roundOn 231 = .ok (.getfield 31, 3) := by decide +kernel
theorem dX4_roundOn_234 : decode cX4_roundOn 234 = .ok (.iload_n 2, 1) := by decide +kernel
theorem dX4_roundOn_235 : decode cX4_roundOn 235 = .ok (.iconst 0, 1) := by decide +kernel
theorem dX4_roundOn_236 : decode cX4_roundOn 236 = .ok (.bastore, 1) := by decide +kernel
theorem dX4_roundOn_237 : decode cX4_roundOn 237 = .ok (.iinc 2 1, 3) := by decide +kernel
theorem dX4_roundOn_240 : decode cX4_roundOn 240 = .ok (.goto (-36), 3) := by decide +kernel
theorem dX4_roundOn_243 : decode cX4_roundOn 243 = .ok (.return_, 1) := by decide +kernel
set_option maxRecDepth 20000 in
theorem ggX4_solve_X4_begin : GoodIn wsX4_solve wsX4_begin := goodIn_r _ [5, 6, 7, 8, 9, 10, 11, 53, 54, 55, 56, 57, 58, 59, 60, 61, 62, 63, 64, 65, 66, 67, 68] (by decide +kernel) (by decide +kernel)
set_option maxRecDepth 20000 in
theorem gX4_solve_X4_begin : GoodIn wsX4_solve (wsV RX4 96 RX4 yX4_begin wsX4_begin) := goodIn_app (goodIn_of _ (by decide +kernel)) ggX4_solve_X4_begin
set_option maxRecDepth 20000 in
theorem ggX4_solve_X4_isAnybody : GoodIn wsX4_solve wsX4_isAnybody := goodIn_r _ [15, 6, 7, 53, 54, 55, 56, 57, 58, 59, 60, 61, 62, 63, 64, 65, 66, 67, 68] (by decide +kernel) (by decide +kernel)
set_option maxRecDepth 20000 in
theorem gX4_solve_X4_isAnybody : GoodIn wsX4_solve (wsV RX4 99 RX4 yX4_isAnybody wsX4_isAnybody) := goodIn_app (goodIn_of _ (by decide +kernel)) ggX4_solve_X4_isAnybody
set_option maxRecDepth 20000 in
theorem ggX4_solve_X4_roundOn : GoodIn wsX4_solve wsX4_roundOn := goodIn_r _ [19, 9, 6, 20, 7, 21, 22, 23, 24, 11, 25, 26, 27, 28, 10, 29, 30, 31, 4, 32, 33, 34, 35, 36, 37, 38, 39, 40, 41, 42, 43, 44, 45, 46, 47, 48, 49, 50, 51, 52, 53, 54, 55, 56, 57, 58, 59, 60, 61, 62, 63, 64, 65, 66, 67, 68] (by decide +kernel) (by decide +kernel)
set_option maxRecDepth 20000 in
theorem gX4_solve_X4_roundOn : GoodIn wsX4_solve (wsV RX4 103 RX4 yX4_roundOn wsX4_roundOn) := goodIn_app (goodIn_of _ (by decide +kernel)) ggX4_solve_X4_roundOn
theorem dX4_solve_0 : decode cX4_solve 0 = .ok (.aload_n 0, 1) := by decide +kernel
theorem dX4_solve_1 : decode cX4_solve 1 = .ok (.invokevirtual 96, 3) := by decide +kernel
theorem dX4_solve_4 : decode cX4_solve 4 = .ok (.aload_n 0, 1) := by decide +kernel
theorem dX4_solve_5 : decode cX4_solve 5 = .ok (.invokevirtual 99, 3) := by decide +kernel
theorem dX4_solve_8 : decode cX4_solve 8 = .ok (.ifCond .eq 10, 3) := by decide +kernel
theorem dX4_solve_11 : decode cX4_solve 11 = .ok (.aload_n 0, 1) := by decide +kernel
theorem dX4_solve_12 : decode cX4_solve 12 = .ok (.invokevirtual 103, 3) := by decide +kernel
theorem dX4_solve_15 : decode cX4_solve 15 = .ok (.goto (-11), 3) := by decide +kernel
theorem dX4_solve_18 : decode cX4_solve 18 = .ok (.return_, 1) := by decide +kernel
set_option maxRecDepth 20000 in
theorem ggX4_rankOf_X4_placeOf : GoodIn wsX4_rankOf wsX4_placeOf := goodIn_r _ [7, 2, 8, 9, 10, 6, 11, 12, 13, 14, 15, 16, 17, 18, 19, 20, 21, 22, 23, 24, 25, 26, 27, 28] (by decide +kernel) (by decide +kernel)
set_option maxRecDepth 20000 in
theorem gX4_rankOf_X4_placeOf : GoodIn wsX4_rankOf (wsV RX4 67 RX4 yX4_placeOf wsX4_placeOf) := goodIn_app (goodIn_of _ (by decide +kernel)) ggX4_rankOf_X4_placeOf
theorem dX4_rankOf_0 : decode cX4_rankOf 0 = .ok (.iload_n 2, 1) := by decide +kernel
theorem dX4_rankOf_1 : decode cX4_rankOf 1 = .ok (.aload_n 0, 1) := by decide +kernel
theorem dX4_rankOf_2 : decode cX4_rankOf 2 = .ok (.getfield 9, 3) := by decide +kernel
theorem dX4_rankOf_5 : decode cX4_rankOf 5 = .ok (.iload_n 1, 1) := by decide +kernel
theorem dX4_rankOf_6 : decode cX4_rankOf 6 = .ok (.iaload, 1) := by decide +kernel
theorem dX4_rankOf_7 : decode cX4_rankOf 7 = .ok (.if_icmp .ne 12, 3) := by decide +kernel
theorem dX4_rankOf_10 : decode cX4_rankOf 10 = .ok (.aload_n 0, 1) := by decide +kernel
theorem dX4_rankOf_11 : decode cX4_rankOf 11 = .ok (.getfield 13, 3) := by decide +kernel
theorem dX4_rankOf_14 : decode cX4_rankOf 14 = .ok (.iload_n 1, 1) := by decide +kernel
theorem dX4_rankOf_15 : decode cX4_rankOf 15 = .ok (.iaload, 1) := by decide +kernel
theorem dX4_rankOf_16 : decode cX4_rankOf 16 = .ok (.goto 9, 3) := by decide +kernel
theorem dX4_rankOf_19 : decode cX4_rankOf 19 = .ok (.aload_n 0, 1) := by decide +kernel
theorem dX4_rankOf_20 : decode cX4_rankOf 20 = .ok (.iload_n 1, 1) := by decide +kernel
theorem dX4_rankOf_21 : decode cX4_rankOf 21 = .ok (.iload_n 2, 1) := by decide +kernel
theorem dX4_rankOf_22 : decode cX4_rankOf 22 = .ok (.invokevirtual 67, 3) := by decide +kernel
theorem dX4_rankOf_25 : decode cX4_rankOf 25 = .ok (.ireturn, 1) := by decide +kernel
set_option maxRecDepth 20000 in
theorem ggX4_toldOf_X4_rankOf : GoodIn wsX4_toldOf wsX4_rankOf := goodIn_r _ [10, 1, 2, 11, 12, 13, 9, 14, 15, 16, 17, 18, 19, 20, 21, 22, 23, 24, 25, 26, 27, 28, 29, 30, 31, 32, 33, 34, 35] (by decide +kernel) (by decide +kernel)
set_option maxRecDepth 20000 in
theorem gX4_toldOf_X4_rankOf : GoodIn wsX4_toldOf (wsV RX4 106 RX4 yX4_rankOf wsX4_rankOf) := goodIn_app (goodIn_of _ (by decide +kernel)) ggX4_toldOf_X4_rankOf
theorem dX4_toldOf_0 : decode cX4_toldOf 0 = .ok (.iload_n 2, 1) := by decide +kernel
theorem dX4_toldOf_1 : decode cX4_toldOf 1 = .ok (.tableswitch 70 0 4 #[35, 42, 49, 56, 63], 35) := by decide +kernel
theorem dX4_toldOf_36 : decode cX4_toldOf 36 = .ok (.aload_n 0, 1) := by decide +kernel
theorem dX4_toldOf_37 : decode cX4_toldOf 37 = .ok (.getfield 9, 3) := by decide +kernel
theorem dX4_toldOf_40 : decode cX4_toldOf 40 = .ok (.iload_n 1, 1) := by decide +kernel
theorem dX4_toldOf_41 : decode cX4_toldOf 41 = .ok (.iaload, 1) := by decide +kernel
theorem dX4_toldOf_42 : decode cX4_toldOf 42 = .ok (.ireturn, 1) := by decide +kernel
theorem dX4_toldOf_43 : decode cX4_toldOf 43 = .ok (.aload_n 0, 1) := by decide +kernel
theorem dX4_toldOf_44 : decode cX4_toldOf 44 = .ok (.getfield 13, 3) := by decide +kernel
theorem dX4_toldOf_47 : decode cX4_toldOf 47 = .ok (.iload_n 1, 1) := by decide +kernel
theorem dX4_toldOf_48 : decode cX4_toldOf 48 = .ok (.iaload, 1) := by decide +kernel
theorem dX4_toldOf_49 : decode cX4_toldOf 49 = .ok (.ireturn, 1) := by decide +kernel
theorem dX4_toldOf_50 : decode cX4_toldOf 50 = .ok (.aload_n 0, 1) := by decide +kernel
theorem dX4_toldOf_51 : decode cX4_toldOf 51 = .ok (.getfield 19, 3) := by decide +kernel
theorem dX4_toldOf_54 : decode cX4_toldOf 54 = .ok (.iload_n 1, 1) := by decide +kernel
theorem dX4_toldOf_55 : decode cX4_toldOf 55 = .ok (.iaload, 1) := by decide +kernel
theorem dX4_toldOf_56 : decode cX4_toldOf 56 = .ok (.ireturn, 1) := by decide +kernel
theorem dX4_toldOf_57 : decode cX4_toldOf 57 = .ok (.aload_n 0, 1) := by decide +kernel
theorem dX4_toldOf_58 : decode cX4_toldOf 58 = .ok (.getfield 22, 3) := by decide +kernel
theorem dX4_toldOf_61 : decode cX4_toldOf 61 = .ok (.iload_n 1, 1) := by decide +kernel
theorem dX4_toldOf_62 : decode cX4_toldOf 62 = .ok (.iaload, 1) := by decide +kernel
theorem dX4_toldOf_63 : decode cX4_toldOf 63 = .ok (.ireturn, 1) := by decide +kernel
theorem dX4_toldOf_64 : decode cX4_toldOf 64 = .ok (.aload_n 0, 1) := by decide +kernel
theorem dX4_toldOf_65 : decode cX4_toldOf 65 = .ok (.getfield 25, 3) := by decide +kernel
theorem dX4_toldOf_68 : decode cX4_toldOf 68 = .ok (.iload_n 1, 1) := by decide +kernel
theorem dX4_toldOf_69 : decode cX4_toldOf 69 = .ok (.iaload, 1) := by decide +kernel
theorem dX4_toldOf_70 : decode cX4_toldOf 70 = .ok (.ireturn, 1) := by decide +kernel
theorem dX4_toldOf_71 : decode cX4_toldOf 71 = .ok (.aload_n 0, 1) := by decide +kernel
theorem dX4_toldOf_72 : decode cX4_toldOf 72 = .ok (.iload_n 1, 1) := by decide +kernel
theorem dX4_toldOf_73 : decode cX4_toldOf 73 = .ok (.aload_n 0, 1) := by decide +kernel
theorem dX4_toldOf_74 : decode cX4_toldOf 74 = .ok (.getfield 19, 3) := by decide +kernel
theorem dX4_toldOf_77 : decode cX4_toldOf 77 = .ok (.iload_n 1, 1) := by decide +kernel
theorem dX4_toldOf_78 : decode cX4_toldOf 78 = .ok (.iaload, 1) := by decide +kernel
theorem dX4_toldOf_79 : decode cX4_toldOf 79 = .ok (.invokevirtual 106, 3) := by decide +kernel
theorem dX4_toldOf_82 : decode cX4_toldOf 82 = .ok (.ireturn, 1) := by decide +kernel
set_option maxRecDepth 20000 in
theorem ggX4_told_X4_isKeeper : GoodIn wsX4_told wsX4_isKeeper := goodIn_r _ [6, 7, 8, 9, 5, 10, 81, 82, 83, 84, 85, 86, 87, 88, 89, 90, 91, 92, 93, 94, 95, 96] (by decide +kernel) (by decide +kernel)
set_option maxRecDepth 20000 in
theorem gX4_told_X4_isKeeper : GoodIn wsX4_told (wsV RX4 63 RX4 yX4_isKeeper wsX4_isKeeper) := goodIn_app (goodIn_of _ (by decide +kernel)) ggX4_told_X4_isKeeper
set_option maxRecDepth 20000 in
theorem ggX4_told_X4_isIn : GoodIn wsX4_told wsX4_isIn := goodIn_r _ [10] (by decide +kernel) (by decide +kernel)
set_option maxRecDepth 20000 in
theorem gX4_told_X4_isIn : GoodIn wsX4_told (va_wsS RX4 51 yX4_isIn wsX4_isIn) := goodIn_app (goodIn_of _ (by decide +kernel)) ggX4_told_X4_isIn
set_option maxRecDepth 20000 in
theorem ggX4_told_X4_fail : GoodIn wsX4_told wsX4_fail := goodIn_r _ [14, 1, 81, 82, 83, 84, 85, 86, 87, 88, 89, 90, 91, 92, 93, 94, 95, 96] (by decide +kernel) (by decide +kernel)
set_option maxRecDepth 20000 in
theorem gX4_told_X4_fail : GoodIn wsX4_told (wsV RX4 55 RX4 yX4_fail wsX4_fail) := goodIn_app (goodIn_of _ (by decide +kernel)) ggX4_told_X4_fail
set_option maxRecDepth 20000 in
theorem ggX4_told_X4_solve : GoodIn wsX4_told wsX4_solve := goodIn_r _ [18, 19, 20, 21, 5, 22, 7, 23, 24, 25, 26, 27, 28, 29, 30, 31, 32, 33, 34, 35, 36, 37, 38, 39, 40, 41, 42, 43, 44, 45, 46, 47, 48, 49, 50, 51, 52, 53, 54, 55, 56, 57, 58, 59, 60, 61, 62, 63, 64, 65, 66, 67, 68, 81, 82, 83, 84, 85, 86, 87, 88, 89, 90, 91, 92, 93, 94, 95, 96] (by decide +kernel) (by decide +kernel)
set_option maxRecDepth 20000 in
theorem gX4_told_X4_solve : GoodIn wsX4_told (wsV RX4 109 RX4 yX4_solve wsX4_solve) := goodIn_app (goodIn_of _ (by decide +kernel)) ggX4_told_X4_solve
set_option maxRecDepth 20000 in
theorem ggX4_told_X4_toldOf : GoodIn wsX4_told wsX4_toldOf := goodIn_r _ [72, 38, 55, 37, 40, 36, 73, 74, 75, 5, 76, 77, 78, 79, 80, 60, 61, 62, 63, 64, 81, 82, 83, 84, 85, 86, 87, 88, 89, 90, 91, 92, 93, 94, 95, 96] (by decide +kernel) (by decide +kernel)
set_option maxRecDepth 20000 in
theorem gX4_told_X4_toldOf : GoodIn wsX4_told (wsV RX4 112 RX4 yX4_toldOf wsX4_toldOf) := goodIn_app (goodIn_of _ (by decide +kernel)) ggX4_told_X4_toldOf
theorem dX4_told_0 : decode cX4_told 0 = .ok (.aload_n 0, 1) := by decide +kernel
theorem dX4_told_1 : decode cX4_told 1 = .ok (.iconst 0, 1) := by decide +kernel
theorem dX4_told_2 : decode cX4_told 2 = .ok (.putfield 45, 3) := by decide +kernel
theorem dX4_told_5 : decode cX4_told 5 = .ok (.aload_n 0, 1) := by decide +kernel
theorem dX4_told_6 : decode cX4_told 6 = .ok (.iload_n 1, 1) := by decide +kernel
theorem dX4_told_7 : decode cX4_told 7 = .ok (.invokevirtual 63, 3) := by decide +kernel
theorem dX4_told_10 : decode cX4_told 10 = .ok (.ifCond .eq 12, 3) := by decide +kernel
theorem dX4_told_13 : decode cX4_told 13 = .ok (.iload_n 2, 1) := by decide +kernel
theorem dX4_told_14 : decode cX4_told 14 = .ok (.iconst 0, 1) := by decide +kernel
theorem dX4_told_15 : decode cX4_told 15 = .ok (.iconst 5, 1) := by decide +kernel
theorem dX4_told_16 : decode cX4_told 16 = .ok (.invokestatic 51, 3) := by decide +kernel
theorem dX4_told_19 : decode cX4_told 19 = .ok (.ifCond .ne 9, 3) := by decide +kernel
theorem dX4_told_22 : decode cX4_told 22 = .ok (.aload_n 0, 1) := by decide +kernel
theorem dX4_told_23 : decode cX4_told 23 = .ok (.iconst 1, 1) := by decide +kernel
theorem dX4_told_24 : decode cX4_told 24 = .ok (.invokevirtual 55, 3) := by decide +kernel
theorem dX4_told_27 : decode cX4_told 27 = .ok (.ireturn, 1) := by decide +kernel
theorem dX4_told_28 : decode cX4_told 28 = .ok (.aload_n 0, 1) := by decide +kernel
theorem dX4_told_29 : decode cX4_told 29 = .ok (.invokevirtual 109, 3) := by decide +kernel
theorem dX4_told_32 : decode cX4_told 32 = .ok (.aload_n 0, 1) := by decide +kernel
theorem dX4_told_33 : decode cX4_told 33 = .ok (.iload_n 1, 1) := by decide +kernel
theorem dX4_told_34 : decode cX4_told 34 = .ok (.iload_n 2, 1) := by decide +kernel
theorem dX4_told_35 : decode cX4_told 35 = .ok (.invokevirtual 112, 3) := by decide +kernel
theorem dX4_told_38 : decode cX4_told 38 = .ok (.ireturn, 1) := by decide +kernel
set_option maxRecDepth 20000 in
theorem ggX4_points_X4_isKeeper : GoodIn wsX4_points wsX4_isKeeper := goodIn_r _ [9, 10, 11, 12, 8, 13, 61, 62, 63, 64, 65, 66, 67, 68, 69, 70, 71, 72, 73, 74, 75, 76] (by decide +kernel) (by decide +kernel)
set_option maxRecDepth 20000 in
theorem gX4_points_X4_isKeeper : GoodIn wsX4_points (wsV RX4 63 RX4 yX4_isKeeper wsX4_isKeeper) := goodIn_app (goodIn_of _ (by decide +kernel)) ggX4_points_X4_isKeeper
set_option maxRecDepth 20000 in
theorem ggX4_points_X4_fail : GoodIn wsX4_points wsX4_fail := goodIn_r _ [17, 1, 61, 62, 63, 64, 65, 66, 67, 68, 69, 70, 71, 72, 73, 74, 75, 76] (by decide +kernel) (by decide +kernel)
set_option maxRecDepth 20000 in
theorem gX4_points_X4_fail : GoodIn wsX4_points (wsV RX4 55 RX4 yX4_fail wsX4_fail) := goodIn_app (goodIn_of _ (by decide +kernel)) ggX4_points_X4_fail
set_option maxRecDepth 20000 in
theorem ggX4_points_X4_begin : GoodIn wsX4_points wsX4_begin := goodIn_r _ [21, 10, 3, 22, 2, 23, 24, 61, 62, 63, 64, 65, 66, 67, 68, 69, 70, 71, 72, 73, 74, 75, 76] (by decide +kernel) (by decide +kernel)
set_option maxRecDepth 20000 in
theorem gX4_points_X4_begin : GoodIn wsX4_points (wsV RX4 96 RX4 yX4_begin wsX4_begin) := goodIn_app (goodIn_of _ (by decide +kernel)) ggX4_points_X4_begin
set_option maxRecDepth 20000 in
theorem ggX4_points_X4_roundOn : GoodIn wsX4_points wsX4_roundOn := goodIn_r _ [28, 2, 10, 29, 3, 30, 31, 4, 32, 24, 33, 34, 35, 36, 23, 37, 38, 39, 8, 40, 41, 42, 43, 44, 45, 46, 47, 48, 49, 50, 51, 52, 53, 54, 55, 56, 57, 58, 59, 60, 61, 62, 63, 64, 65, 66, 67, 68, 69, 70, 71, 72, 73, 74, 75, 76] (by decide +kernel) (by decide +kernel)
set_option maxRecDepth 20000 in
theorem gX4_points_X4_roundOn : GoodIn wsX4_points (wsV RX4 103 RX4 yX4_roundOn wsX4_roundOn) := goodIn_app (goodIn_of _ (by decide +kernel)) ggX4_points_X4_roundOn
theorem dX4_points_0 : decode cX4_points 0 = .ok (.aload_n 0, 1) := by decide +kernel
theorem dX4_points_1 : decode cX4_points 1 = .ok (.iconst 0, 1) := by decide +kernel
theorem dX4_points_2 : decode cX4_points 2 = .ok (.putfield 45, 3) := by decide +kernel
theorem dX4_points_5 : decode cX4_points 5 = .ok (.aload_n 0, 1) := by decide +kernel
theorem dX4_points_6 : decode cX4_points 6 = .ok (.iload_n 1, 1) := by decide +kernel
theorem dX4_points_7 : decode cX4_points 7 = .ok (.invokevirtual 63, 3) := by decide +kernel
theorem dX4_points_10 : decode cX4_points 10 = .ok (.ifCond .ne 9, 3) := by decide +kernel
theorem dX4_points_13 : decode cX4_points 13 = .ok (.aload_n 0, 1) := by decide +kernel
theorem dX4_points_14 : decode cX4_points 14 = .ok (.iconst 1, 1) := by decide +kernel
theorem dX4_points_15 : decode cX4_points 15 = .ok (.invokevirtual 55, 3) := by decide +kernel
theorem dX4_points_18 : decode cX4_points 18 = .ok (.ireturn, 1) := by decide +kernel
theorem dX4_points_19 : decode cX4_points 19 = .ok (.iload_n 2, 1) := by decide +kernel
theorem dX4_points_20 : decode cX4_points 20 = .ok (.iconst 1, 1) := by decide +kernel
theorem dX4_points_21 : decode cX4_points 21 = .ok (.if_icmp .ge 9, 3) := by decide +kernel
theorem dX4_points_24 : decode cX4_points 24 = .ok (.aload_n 0, 1) := by decide +kernel
theorem dX4_points_25 : decode cX4_points 25 = .ok (.iconst 2, 1) := by decide +kernel
theorem dX4_points_26 : decode cX4_points 26 = .ok (.invokevirtual 55, 3) := by decide +kernel
theorem dX4_points_29 : decode cX4_points 29 = .ok (.ireturn, 1) := by decide +kernel
theorem dX4_points_30 : decode cX4_points 30 = .ok (.aload_n 0, 1) := by decide +kernel
theorem dX4_points_31 : decode cX4_points 31 = .ok (.invokevirtual 96, 3) := by decide +kernel
theorem dX4_points_34 : decode cX4_points 34 = .ok (.aload_n 0, 1) := by decide +kernel
theorem dX4_points_35 : decode cX4_points 35 = .ok (.getfield 76, 3) := by decide +kernel
theorem dX4_points_38 : decode cX4_points 38 = .ok (.iload_n 2, 1) := by decide +kernel
theorem dX4_points_39 : decode cX4_points 39 = .ok (.if_icmp .ge 19, 3) := by decide +kernel
theorem dX4_points_42 : decode cX4_points 42 = .ok (.aload_n 0, 1) := by decide +kernel
theorem dX4_points_43 : decode cX4_points 43 = .ok (.getfield 31, 3) := by decide +kernel
theorem dX4_points_46 : decode cX4_points 46 = .ok (.iload_n 1, 1) := by decide +kernel
theorem dX4_points_47 : decode cX4_points 47 = .ok (.baload, 1) := by decide +kernel
theorem dX4_points_48 : decode cX4_points 48 = .ok (.ifCond .eq 10, 3) := by decide +kernel
theorem dX4_points_51 : decode cX4_points 51 = .ok (.aload_n 0, 1) := by decide +kernel
theorem dX4_points_52 : decode cX4_points 52 = .ok (.invokevirtual 103, 3) := by decide +kernel
theorem dX4_points_55 : decode cX4_points 55 = .ok (.goto (-21), 3) := by decide +kernel
theorem dX4_points_58 : decode cX4_points 58 = .ok (.aload_n 0, 1) := by decide +kernel
theorem dX4_points_59 : decode cX4_points 59 = .ok (.getfield 76, 3) := by decide +kernel
theorem dX4_points_62 : decode cX4_points 62 = .ok (.iload_n 2, 1) := by decide +kernel
theorem dX4_points_63 : decode cX4_points 63 = .ok (.if_icmp .ge 7, 3) := by decide +kernel
theorem dX4_points_66 : decode cX4_points 66 = .ok (.iconst (-1), 1) := by decide +kernel
theorem dX4_points_67 : decode cX4_points 67 = .ok (.goto 9, 3) := by decide +kernel
theorem dX4_points_70 : decode cX4_points 70 = .ok (.aload_n 0, 1) := by decide +kernel
theorem dX4_points_71 : decode cX4_points 71 = .ok (.getfield 28, 3) := by decide +kernel
theorem dX4_points_74 : decode cX4_points 74 = .ok (.iload_n 1, 1) := by decide +kernel
theorem dX4_points_75 : decode cX4_points 75 = .ok (.iaload, 1) := by decide +kernel
theorem dX4_points_76 : decode cX4_points 76 = .ok (.ireturn, 1) := by decide +kernel
set_option maxRecDepth 20000 in
theorem ggX4_rank_X4_isKeeper : GoodIn wsX4_rank wsX4_isKeeper := goodIn_r _ [6, 7, 8, 9, 5, 10, 30, 31, 32, 33, 34, 35, 36, 37, 38, 39, 40, 41, 42, 43, 44, 45] (by decide +kernel) (by decide +kernel)
set_option maxRecDepth 20000 in
theorem gX4_rank_X4_isKeeper : GoodIn wsX4_rank (wsV RX4 63 RX4 yX4_isKeeper wsX4_isKeeper) := goodIn_app (goodIn_of _ (by decide +kernel)) ggX4_rank_X4_isKeeper
set_option maxRecDepth 20000 in
theorem ggX4_rank_X4_rankOf : GoodIn wsX4_rank wsX4_rankOf := goodIn_r _ [14, 15, 16, 17, 18, 19, 5, 20, 21, 22, 23, 24, 25, 30, 31, 32, 33, 34, 35, 36, 37, 38, 39, 40, 41, 42, 43, 44, 45] (by decide +kernel) (by decide +kernel)
set_option maxRecDepth 20000 in
theorem gX4_rank_X4_rankOf : GoodIn wsX4_rank (wsV RX4 106 RX4 yX4_rankOf wsX4_rankOf) := goodIn_app (goodIn_of _ (by decide +kernel)) ggX4_rank_X4_rankOf
set_option maxRecDepth 20000 in
theorem ggX4_rank_X4_fail : GoodIn wsX4_rank wsX4_fail := goodIn_r _ [29, 1, 30, 31, 32, 33, 34, 35, 36, 37, 38, 39, 40, 41, 42, 43, 44, 45] (by decide +kernel) (by decide +kernel)
set_option maxRecDepth 20000 in
theorem gX4_rank_X4_fail : GoodIn wsX4_rank (wsV RX4 55 RX4 yX4_fail wsX4_fail) := goodIn_app (goodIn_of _ (by decide +kernel)) ggX4_rank_X4_fail
theorem dX4_rank_0 : decode cX4_rank 0 = .ok (.aload_n 0, 1) := by decide +kernel
theorem dX4_rank_1 : decode cX4_rank 1 = .ok (.iconst 0, 1) := by decide +kernel
theorem dX4_rank_2 : decode cX4_rank 2 = .ok (.putfield 45, 3) := by decide +kernel
theorem dX4_rank_5 : decode cX4_rank 5 = .ok (.aload_n 0, 1) := by decide +kernel
theorem dX4_rank_6 : decode cX4_rank 6 = .ok (.iload_n 1, 1) := by decide +kernel
theorem dX4_rank_7 : decode cX4_rank 7 = .ok (.invokevirtual 63, 3) := by decide +kernel
theorem dX4_rank_10 : decode cX4_rank 10 = .ok (.ifCond .eq 20, 3) := by decide +kernel
theorem dX4_rank_13 : decode cX4_rank 13 = .ok (.aload_n 0, 1) := by decide +kernel
theorem dX4_rank_14 : decode cX4_rank 14 = .ok (.iload_n 2, 1) := by decide +kernel
theorem dX4_rank_15 : decode cX4_rank 15 = .ok (.invokevirtual 63, 3) := by decide +kernel
theorem dX4_rank_18 : decode cX4_rank 18 = .ok (.ifCond .eq 12, 3) := by decide +kernel
theorem dX4_rank_21 : decode cX4_rank 21 = .ok (.aload_n 0, 1) := by decide +kernel
theorem dX4_rank_22 : decode cX4_rank 22 = .ok (.iload_n 1, 1) := by decide +kernel
theorem dX4_rank_23 : decode cX4_rank 23 = .ok (.iload_n 2, 1) := by decide +kernel
theorem dX4_rank_24 : decode cX4_rank 24 = .ok (.invokevirtual 106, 3) := by decide +kernel
theorem dX4_rank_27 : decode cX4_rank 27 = .ok (.goto 8, 3) := by decide +kernel
theorem dX4_rank_30 : decode cX4_rank 30 = .ok (.aload_n 0, 1) := by decide +kernel
theorem dX4_rank_31 : decode cX4_rank 31 = .ok (.iconst 1, 1) := by decide +kernel
theorem dX4_rank_32 : decode cX4_rank 32 = .ok (.invokevirtual 55, 3) := by decide +kernel
theorem dX4_rank_35 : decode cX4_rank 35 = .ok (.ireturn, 1) := by decide +kernel
set_option maxRecDepth 20000 in
theorem ggX4_counted_X4_solve : GoodIn wsX4_counted wsX4_solve := goodIn_r _ [11, 12, 13, 14, 10, 15, 1, 16, 17, 2, 3, 6, 18, 19, 20, 21, 22, 23, 24, 25, 26, 4, 5, 27, 28, 29, 30, 31, 32, 33, 34, 35, 36, 37, 38, 39, 40, 41, 42, 43, 44, 45, 46, 47, 48, 49, 50, 51, 52, 53, 54, 55, 56, 65, 66, 67, 68, 69, 70, 71, 72, 73, 74, 75, 76, 77, 78, 79, 80] (by decide +kernel) (by decide +kernel)
set_option maxRecDepth 20000 in
theorem gX4_counted_X4_solve : GoodIn wsX4_counted (wsV RX4 109 RX4 yX4_solve wsX4_solve) := goodIn_app (goodIn_of _ (by decide +kernel)) ggX4_counted_X4_solve
set_option maxRecDepth 20000 in
theorem ggX4_counted_X4_rankOf : GoodIn wsX4_counted wsX4_rankOf := goodIn_r _ [60, 5, 43, 61, 62, 63, 10, 64, 48, 49, 50, 51, 52, 65, 66, 67, 68, 69, 70, 71, 72, 73, 74, 75, 76, 77, 78, 79, 80] (by decide +kernel) (by decide +kernel)
set_option maxRecDepth 20000 in
theorem gX4_counted_X4_rankOf : GoodIn wsX4_counted (wsV RX4 106 RX4 yX4_rankOf wsX4_rankOf) := goodIn_app (goodIn_of _ (by decide +kernel)) ggX4_counted_X4_rankOf
theorem dX4_counted_0 : decode cX4_counted 0 = .ok (.iconst 0, 1) := by decide +kernel
theorem dX4_counted_1 : decode cX4_counted 1 = .ok (.istore_n 2, 1) := by decide +kernel
theorem dX4_counted_2 : decode cX4_counted 2 = .ok (.aload_n 0, 1) := by decide +kernel
theorem dX4_counted_3 : decode cX4_counted 3 = .ok (.invokevirtual 109, 3) := by decide +kernel
theorem dX4_counted_6 : decode cX4_counted 6 = .ok (.iload_n 1, 1) := by decide +kernel
theorem dX4_counted_7 : decode cX4_counted 7 = .ok (.tableswitch 121 0 4 #[33, 38, 43, 48, 89], 33) := by decide +kernel
theorem dX4_counted_40 : decode cX4_counted 40 = .ok (.aload_n 0, 1) := by decide +kernel
theorem dX4_counted_41 : decode cX4_counted 41 = .ok (.getfield 48, 3) := by decide +kernel
theorem dX4_counted_44 : decode cX4_counted 44 = .ok (.ireturn, 1) := by decide +kernel
theorem dX4_counted_45 : decode cX4_counted 45 = .ok (.aload_n 0, 1) := by decide +kernel
theorem dX4_counted_46 : decode cX4_counted 46 = .ok (.getfield 76, 3) := by decide +kernel
theorem dX4_counted_49 : decode cX4_counted 49 = .ok (.ireturn, 1) := by decide +kernel
theorem dX4_counted_50 : decode cX4_counted 50 = .ok (.aload_n 0, 1) := by decide +kernel
theorem dX4_counted_51 : decode cX4_counted 51 = .ok (.getfield 79, 3) := by decide +kernel
theorem dX4_counted_54 : decode cX4_counted 54 = .ok (.ireturn, 1) := by decide +kernel
theorem dX4_counted_55 : decode cX4_counted 55 = .ok (.iconst 0, 1) := by decide +kernel
theorem dX4_counted_56 : decode cX4_counted 56 = .ok (.istore_n 3, 1) := by decide +kernel
theorem dX4_counted_57 : decode cX4_counted 57 = .ok (.iload_n 3, 1) := by decide +kernel
theorem dX4_counted_58 : decode cX4_counted 58 = .ok (.aload_n 0, 1) := by decide +kernel
theorem dX4_counted_59 : decode cX4_counted 59 = .ok (.getfield 48, 3) := by decide +kernel
theorem dX4_counted_62 : decode cX4_counted 62 = .ok (.if_icmp .ge 32, 3) := by decide +kernel
theorem dX4_counted_65 : decode cX4_counted 65 = .ok (.iload_n 2, 1) := by decide +kernel
theorem dX4_counted_66 : decode cX4_counted 66 = .ok (.aload_n 0, 1) := by decide +kernel
theorem dX4_counted_67 : decode cX4_counted 67 = .ok (.getfield 19, 3) := by decide +kernel
theorem dX4_counted_70 : decode cX4_counted 70 = .ok (.iload_n 3, 1) := by decide +kernel
theorem dX4_counted_71 : decode cX4_counted 71 = .ok (.iaload, 1) := by decide +kernel
theorem dX4_counted_72 : decode cX4_counted 72 = .ok (.aload_n 0, 1) := by decide +kernel
theorem dX4_counted_73 : decode cX4_counted 73 = .ok (.getfield 9, 3) := by decide +kernel
theorem dX4_counted_76 : decode cX4_counted 76 = .ok (.iload_n 3, 1) := by decide +kernel
theorem dX4_counted_77 : decode cX4_counted 77 = .ok (.iaload, 1) := by decide +kernel
theorem dX4_counted_78 : decode cX4_counted 78 = .ok (.if_icmp .ne 7, 3) := by decide +kernel
theorem dX4_counted_81 : decode cX4_counted 81 = .ok (.iconst 0, 1) := by decide +kernel
theorem dX4_counted_82 : decode cX4_counted 82 = .ok (.goto 4, 3) := by decide +kernel
theorem dX4_counted_85 : decode cX4_counted 85 = .ok (.iconst 1, 1) := by decide +kernel
theorem dX4_counted_86 : decode cX4_counted 86 = .ok (.iadd, 1) := by decide +kernel
theorem dX4_counted_87 : decode cX4_counted 87 = .ok (.istore_n 2, 1) := by decide +kernel
theorem dX4_counted_88 : decode cX4_counted 88 = .ok (.iinc 3 1, 3) := by decide +kernel
theorem dX4_counted_91 : decode cX4_counted 91 = .ok (.goto (-34), 3) := by decide +kernel
theorem dX4_counted_94 : decode cX4_counted 94 = .ok (.iload_n 2, 1) := by decide +kernel
theorem dX4_counted_95 : decode cX4_counted 95 = .ok (.ireturn, 1) := by decide +kernel
theorem dX4_counted_96 : decode cX4_counted 96 = .ok (.iconst 0, 1) := by decide +kernel
theorem dX4_counted_97 : decode cX4_counted 97 = .ok (.istore_n 3, 1) := by decide +kernel
theorem dX4_counted_98 : decode cX4_counted 98 = .ok (.iload_n 3, 1) := by decide +kernel
theorem dX4_counted_99 : decode cX4_counted 99 = .ok (.aload_n 0, 1) := by decide +kernel
theorem dX4_counted_100 : decode cX4_counted 100 = .ok (.getfield 48, 3) := by decide +kernel
theorem dX4_counted_103 : decode cX4_counted 103 = .ok (.if_icmp .ge 23, 3) := by decide +kernel
theorem dX4_counted_106 : decode cX4_counted 106 = .ok (.iload_n 2, 1) := by decide +kernel
theorem dX4_counted_107 : decode cX4_counted 107 = .ok (.aload_n 0, 1) := by decide +kernel
theorem dX4_counted_108 : decode cX4_counted 108 = .ok (.iload_n 3, 1) := by decide +kernel
theorem dX4_counted_109 : decode cX4_counted 109 = .ok (.aload_n 0, 1) := by decide +kernel
theorem dX4_counted_110 : decode cX4_counted 110 = .ok (.getfield 19, 3) := by decide +kernel
theorem dX4_counted_113 : decode cX4_counted 113 = .ok (.iload_n 3, 1) := by decide +kernel
theorem dX4_counted_114 : decode cX4_counted 114 = .ok (.iaload, 1) := by decide +kernel
theorem dX4_counted_115 : decode cX4_counted 115 = .ok (.invokevirtual 106, 3) := by decide +kernel
theorem dX4_counted_118 : decode cX4_counted 118 = .ok (.iadd, 1) := by decide +kernel
theorem dX4_counted_119 : decode cX4_counted 119 = .ok (.istore_n 2, 1) := by decide +kernel
theorem dX4_counted_120 : decode cX4_counted 120 = .ok (.iinc 3 1, 3) := by decide +kernel
theorem dX4_counted_123 : decode cX4_counted 123 = .ok (.goto (-25), 3) := by decide +kernel
theorem dX4_counted_126 : decode cX4_counted 126 = .ok (.iload_n 2, 1) := by decide +kernel
theorem dX4_counted_127 : decode cX4_counted 127 = .ok (.ireturn, 1) := by decide +kernel
theorem dX4_counted_128 : decode cX4_counted 128 = .ok (.aload_n 0, 1) := by decide +kernel
theorem dX4_counted_129 : decode cX4_counted 129 = .ok (.getfield 82, 3) := by decide +kernel
theorem dX4_counted_132 : decode cX4_counted 132 = .ok (.ireturn, 1) := by decide +kernel
set_option maxRecDepth 20000 in
theorem ggX4_count_X4_isIn : GoodIn wsX4_count wsX4_isIn := goodIn_r _ [5] (by decide +kernel) (by decide +kernel)
set_option maxRecDepth 20000 in
theorem gX4_count_X4_isIn : GoodIn wsX4_count (va_wsS RX4 51 yX4_isIn wsX4_isIn) := goodIn_app (goodIn_of _ (by decide +kernel)) ggX4_count_X4_isIn
set_option maxRecDepth 20000 in
theorem ggX4_count_X4_counted : GoodIn wsX4_count wsX4_counted := goodIn_r _ [9, 10, 11, 12, 13, 14, 15, 16, 17, 18, 4, 19, 20, 21, 22, 23, 24, 25, 26, 27, 28, 29, 30, 31, 32, 33, 34, 35, 36, 37, 38, 39, 40, 41, 42, 43, 44, 45, 46, 47, 48, 49, 50, 51, 52, 53, 54, 55, 56, 57, 58, 59, 60, 61, 62, 63, 64, 65, 66, 67, 68, 69, 70, 71, 72, 77, 78, 79, 80, 81, 82, 83, 84, 85, 86, 87, 88, 89, 90, 91, 92] (by decide +kernel) (by decide +kernel)
set_option maxRecDepth 20000 in
theorem gX4_count_X4_counted : GoodIn wsX4_count (wsV RX4 115 RX4 yX4_counted wsX4_counted) := goodIn_app (goodIn_of _ (by decide +kernel)) ggX4_count_X4_counted
set_option maxRecDepth 20000 in
theorem ggX4_count_X4_fail : GoodIn wsX4_count wsX4_fail := goodIn_r _ [76, 1, 77, 78, 79, 80, 81, 82, 83, 84, 85, 86, 87, 88, 89, 90, 91, 92] (by decide +kernel) (by decide +kernel)
set_option maxRecDepth 20000 in
theorem gX4_count_X4_fail : GoodIn wsX4_count (wsV RX4 55 RX4 yX4_fail wsX4_fail) := goodIn_app (goodIn_of _ (by decide +kernel)) ggX4_count_X4_fail
theorem dX4_count_0 : decode cX4_count 0 = .ok (.aload_n 0, 1) := by decide +kernel
theorem dX4_count_1 : decode cX4_count 1 = .ok (.iconst 0, 1) := by decide +kernel
theorem dX4_count_2 : decode cX4_count 2 = .ok (.putfield 45, 3) := by decide +kernel
theorem dX4_count_5 : decode cX4_count 5 = .ok (.iload_n 1, 1) := by decide +kernel
theorem dX4_count_6 : decode cX4_count 6 = .ok (.iconst 0, 1) := by decide +kernel
theorem dX4_count_7 : decode cX4_count 7 = .ok (.iconst 5, 1) := by decide +kernel
theorem dX4_count_8 : decode cX4_count 8 = .ok (.invokestatic 51, 3) := by decide +kernel
theorem dX4_count_11 : decode cX4_count 11 = .ok (.ifCond .eq 11, 3) := by decide +kernel
theorem dX4_count_14 : decode cX4_count 14 = .ok (.aload_n 0, 1) := by decide +kernel
theorem dX4_count_15 : decode cX4_count 15 = .ok (.iload_n 1, 1) := by decide +kernel
theorem dX4_count_16 : decode cX4_count 16 = .ok (.invokevirtual 115, 3) := by decide +kernel
theorem dX4_count_19 : decode cX4_count 19 = .ok (.goto 8, 3) := by decide +kernel
theorem dX4_count_22 : decode cX4_count 22 = .ok (.aload_n 0, 1) := by decide +kernel
theorem dX4_count_23 : decode cX4_count 23 = .ok (.iconst 1, 1) := by decide +kernel
theorem dX4_count_24 : decode cX4_count 24 = .ok (.invokevirtual 55, 3) := by decide +kernel
theorem dX4_count_27 : decode cX4_count 27 = .ok (.ireturn, 1) := by decide +kernel
set_option maxRecDepth 20000 in
theorem ggX4_isLiked_X4_rankOf : GoodIn wsX4_isLiked wsX4_rankOf := goodIn_r _ [6, 7, 8, 9, 10, 11, 5, 12, 13, 14, 15, 16, 17, 18, 19, 20, 21, 22, 23, 24, 25, 26, 27, 28, 29, 30, 31, 32, 33] (by decide +kernel) (by decide +kernel)
set_option maxRecDepth 20000 in
theorem gX4_isLiked_X4_rankOf : GoodIn wsX4_isLiked (wsV RX4 106 RX4 yX4_rankOf wsX4_rankOf) := goodIn_app (goodIn_of _ (by decide +kernel)) ggX4_isLiked_X4_rankOf
theorem dX4_isLiked_0 : decode cX4_isLiked 0 = .ok (.aload_n 0, 1) := by decide +kernel
theorem dX4_isLiked_1 : decode cX4_isLiked 1 = .ok (.iload_n 1, 1) := by decide +kernel
theorem dX4_isLiked_2 : decode cX4_isLiked 2 = .ok (.iload_n 2, 1) := by decide +kernel
theorem dX4_isLiked_3 : decode cX4_isLiked 3 = .ok (.invokevirtual 106, 3) := by decide +kernel
theorem dX4_isLiked_6 : decode cX4_isLiked 6 = .ok (.iconst (-1), 1) := by decide +kernel
theorem dX4_isLiked_7 : decode cX4_isLiked 7 = .ok (.if_icmp .eq 27, 3) := by decide +kernel
theorem dX4_isLiked_10 : decode cX4_isLiked 10 = .ok (.aload_n 0, 1) := by decide +kernel
theorem dX4_isLiked_11 : decode cX4_isLiked 11 = .ok (.iload_n 1, 1) := by decide +kernel
theorem dX4_isLiked_12 : decode cX4_isLiked 12 = .ok (.iload_n 2, 1) := by decide +kernel
theorem dX4_isLiked_13 : decode cX4_isLiked 13 = .ok (.invokevirtual 106, 3) := by decide +kernel
theorem dX4_isLiked_16 : decode cX4_isLiked 16 = .ok (.aload_n 0, 1) := by decide +kernel
theorem dX4_isLiked_17 : decode cX4_isLiked 17 = .ok (.iload_n 1, 1) := by decide +kernel
theorem dX4_isLiked_18 : decode cX4_isLiked 18 = .ok (.aload_n 0, 1) := by decide +kernel
theorem dX4_isLiked_19 : decode cX4_isLiked 19 = .ok (.getfield 19, 3) := by decide +kernel
theorem dX4_isLiked_22 : decode cX4_isLiked 22 = .ok (.iload_n 1, 1) := by decide +kernel
theorem dX4_isLiked_23 : decode cX4_isLiked 23 = .ok (.iaload, 1) := by decide +kernel
theorem dX4_isLiked_24 : decode cX4_isLiked 24 = .ok (.invokevirtual 106, 3) := by decide +kernel
theorem dX4_isLiked_27 : decode cX4_isLiked 27 = .ok (.if_icmp .ge 7, 3) := by decide +kernel
theorem dX4_isLiked_30 : decode cX4_isLiked 30 = .ok (.iconst 1, 1) := by decide +kernel
theorem dX4_isLiked_31 : decode cX4_isLiked 31 = .ok (.goto 4, 3) := by decide +kernel
theorem dX4_isLiked_34 : decode cX4_isLiked 34 = .ok (.iconst 0, 1) := by decide +kernel
theorem dX4_isLiked_35 : decode cX4_isLiked 35 = .ok (.ireturn, 1) := by decide +kernel
set_option maxRecDepth 20000 in
theorem ggX4_swaps_X4_isKeeper : GoodIn wsX4_swaps wsX4_isKeeper := goodIn_r _ [7, 8, 9, 10, 6, 11, 77, 78, 79, 80, 81, 82, 83, 84, 85, 86, 87, 88, 89, 90, 91, 92] (by decide +kernel) (by decide +kernel)
set_option maxRecDepth 20000 in
theorem gX4_swaps_X4_isKeeper : GoodIn wsX4_swaps (wsV RX4 63 RX4 yX4_isKeeper wsX4_isKeeper) := goodIn_app (goodIn_of _ (by decide +kernel)) ggX4_swaps_X4_isKeeper
set_option maxRecDepth 20000 in
theorem ggX4_swaps_X4_solve : GoodIn wsX4_swaps wsX4_solve := goodIn_r _ [15, 16, 17, 18, 6, 19, 8, 20, 21, 22, 23, 24, 25, 26, 27, 28, 29, 30, 31, 32, 33, 2, 34, 35, 36, 37, 38, 39, 40, 41, 42, 43, 44, 45, 46, 47, 48, 49, 50, 51, 52, 53, 54, 55, 56, 57, 58, 59, 60, 61, 62, 63, 64, 77, 78, 79, 80, 81, 82, 83, 84, 85, 86, 87, 88, 89, 90, 91, 92] (by decide +kernel) (by decide +kernel)
set_option maxRecDepth 20000 in
theorem gX4_swaps_X4_solve : GoodIn wsX4_swaps (wsV RX4 109 RX4 yX4_solve wsX4_solve) := goodIn_app (goodIn_of _ (by decide +kernel)) ggX4_swaps_X4_solve
set_option maxRecDepth 20000 in
theorem ggX4_swaps_X4_isLiked : GoodIn wsX4_swaps wsX4_isLiked := goodIn_r _ [68, 2, 69, 70, 71, 6, 72, 34, 51, 73, 74, 75, 76, 56, 57, 58, 59, 60, 77, 78, 79, 80, 81, 82, 83, 84, 85, 86, 87, 88, 89, 90, 91, 92] (by decide +kernel) (by decide +kernel)
set_option maxRecDepth 20000 in
theorem gX4_swaps_X4_isLiked : GoodIn wsX4_swaps (wsV RX4 118 RX4 yX4_isLiked wsX4_isLiked) := goodIn_app (goodIn_of _ (by decide +kernel)) ggX4_swaps_X4_isLiked
theorem dX4_swaps_0 : decode cX4_swaps 0 = .ok (.aload_n 0, 1) := by decide +kernel
theorem dX4_swaps_1 : decode cX4_swaps 1 = .ok (.aload_n 0, 1) := by decide +kernel
theorem dX4_swaps_2 : decode cX4_swaps 2 = .ok (.iload_n 1, 1) := by decide +kernel
theorem dX4_swaps_3 : decode cX4_swaps 3 = .ok (.invokevirtual 63, 3) := by decide +kernel
theorem dX4_swaps_6 : decode cX4_swaps 6 = .ok (.ifCond .eq 15, 3) := by decide +kernel
theorem dX4_swaps_9 : decode cX4_swaps 9 = .ok (.aload_n 0, 1) := by decide +kernel
theorem dX4_swaps_10 : decode cX4_swaps 10 = .ok (.iload_n 2, 1) := by decide +kernel
theorem dX4_swaps_11 : decode cX4_swaps 11 = .ok (.invokevirtual 63, 3) := by decide +kernel
theorem dX4_swaps_14 : decode cX4_swaps 14 = .ok (.ifCond .eq 7, 3) := by decide +kernel
theorem dX4_swaps_17 : decode cX4_swaps 17 = .ok (.iconst 0, 1) := by decide +kernel
theorem dX4_swaps_18 : decode cX4_swaps 18 = .ok (.goto 4, 3) := by decide +kernel
theorem dX4_swaps_21 : decode cX4_swaps 21 = .ok (.iconst 1, 1) := by decide +kernel
theorem dX4_swaps_22 : decode cX4_swaps 22 = .ok (.putfield 45, 3) := by decide +kernel
theorem dX4_swaps_25 : decode cX4_swaps 25 = .ok (.aload_n 0, 1) := by decide +kernel
theorem dX4_swaps_26 : decode cX4_swaps 26 = .ok (.getfield 45, 3) := by decide +kernel
theorem dX4_swaps_29 : decode cX4_swaps 29 = .ok (.ifCond .eq 5, 3) := by decide +kernel
theorem dX4_swaps_32 : decode cX4_swaps 32 = .ok (.iconst 0, 1) := by decide +kernel
theorem dX4_swaps_33 : decode cX4_swaps 33 = .ok (.ireturn, 1) := by decide +kernel
theorem dX4_swaps_34 : decode cX4_swaps 34 = .ok (.aload_n 0, 1) := by decide +kernel
theorem dX4_swaps_35 : decode cX4_swaps 35 = .ok (.invokevirtual 109, 3) := by decide +kernel
theorem dX4_swaps_38 : decode cX4_swaps 38 = .ok (.aload_n 0, 1) := by decide +kernel
theorem dX4_swaps_39 : decode cX4_swaps 39 = .ok (.iload_n 1, 1) := by decide +kernel
theorem dX4_swaps_40 : decode cX4_swaps 40 = .ok (.aload_n 0, 1) := by decide +kernel
theorem dX4_swaps_41 : decode cX4_swaps 41 = .ok (.getfield 19, 3) := by decide +kernel
theorem dX4_swaps_44 : decode cX4_swaps 44 = .ok (.iload_n 2, 1) := by decide +kernel
theorem dX4_swaps_45 : decode cX4_swaps 45 = .ok (.iaload, 1) := by decide +kernel
theorem dX4_swaps_46 : decode cX4_swaps 46 = .ok (.invokevirtual 118, 3) := by decide +kernel
theorem dX4_swaps_49 : decode cX4_swaps 49 = .ok (.ifCond .eq 21, 3) := by decide +kernel
theorem dX4_swaps_52 : decode cX4_swaps 52 = .ok (.aload_n 0, 1) := by decide +kernel
theorem dX4_swaps_53 : decode cX4_swaps 53 = .ok (.iload_n 2, 1) := by decide +kernel
theorem dX4_swaps_54 : decode cX4_swaps 54 = .ok (.aload_n 0, 1) := by decide +kernel
theorem dX4_swaps_55 : decode cX4_swaps 55 = .ok (.getfield 19, 3) := by decide +kernel
theorem dX4_swaps_58 : decode cX4_swaps 58 = .ok (.iload_n 1, 1) := by decide +kernel
theorem dX4_swaps_59 : decode cX4_swaps 59 = .ok (.iaload, 1) := by decide +kernel
theorem dX4_swaps_60 : decode cX4_swaps 60 = .ok (.invokevirtual 118, 3) := by decide +kernel
theorem dX4_swaps_63 : decode cX4_swaps 63 = .ok (.ifCond .eq 7, 3) := by decide +kernel
theorem dX4_swaps_66 : decode cX4_swaps 66 = .ok (.iconst 1, 1) := by decide +kernel
theorem dX4_swaps_67 : decode cX4_swaps 67 = .ok (.goto 4, 3) := by decide +kernel
theorem dX4_swaps_70 : decode cX4_swaps 70 = .ok (.iconst 0, 1) := by decide +kernel
theorem dX4_swaps_71 : decode cX4_swaps 71 = .ok (.ireturn, 1) := by decide +kernel
set_option maxRecDepth 20000 in
theorem ggX4_without_X4_isKeeper : GoodIn wsX4_without wsX4_isKeeper := goodIn_r _ [8, 9, 10, 11, 7, 12, 69, 70, 71, 72, 73, 74, 75, 76, 77, 78, 79, 80, 81, 82, 83, 84] (by decide +kernel) (by decide +kernel)
set_option maxRecDepth 20000 in
theorem gX4_without_X4_isKeeper : GoodIn wsX4_without (wsV RX4 63 RX4 yX4_isKeeper wsX4_isKeeper) := goodIn_app (goodIn_of _ (by decide +kernel)) ggX4_without_X4_isKeeper
set_option maxRecDepth 20000 in
theorem ggX4_without_X4_fail : GoodIn wsX4_without wsX4_fail := goodIn_r _ [16, 1, 69, 70, 71, 72, 73, 74, 75, 76, 77, 78, 79, 80, 81, 82, 83, 84] (by decide +kernel) (by decide +kernel)
set_option maxRecDepth 20000 in
theorem gX4_without_X4_fail : GoodIn wsX4_without (wsV RX4 55 RX4 yX4_fail wsX4_fail) := goodIn_app (goodIn_of _ (by decide +kernel)) ggX4_without_X4_fail
set_option maxRecDepth 20000 in
theorem ggX4_without_X4_solve : GoodIn wsX4_without wsX4_solve := goodIn_r _ [20, 21, 22, 23, 7, 24, 9, 25, 2, 26, 27, 28, 29, 30, 31, 32, 33, 34, 35, 36, 37, 3, 38, 39, 40, 41, 42, 43, 44, 45, 46, 47, 48, 49, 50, 51, 52, 53, 54, 55, 56, 57, 58, 59, 60, 61, 62, 63, 64, 65, 66, 67, 68, 69, 70, 71, 72, 73, 74, 75, 76, 77, 78, 79, 80, 81, 82, 83, 84] (by decide +kernel) (by decide +kernel)
set_option maxRecDepth 20000 in
theorem gX4_without_X4_solve : GoodIn wsX4_without (wsV RX4 109 RX4 yX4_solve wsX4_solve) := goodIn_app (goodIn_of _ (by decide +kernel)) ggX4_without_X4_solve
theorem dX4_without_0 : decode cX4_without 0 = .ok (.aload_n 0, 1) := by decide +kernel
theorem dX4_without_1 : decode cX4_without 1 = .ok (.iconst 0, 1) := by decide +kernel
theorem dX4_without_2 : decode cX4_without 2 = .ok (.putfield 45, 3) := by decide +kernel
theorem dX4_without_5 : decode cX4_without 5 = .ok (.aload_n 0, 1) := by decide +kernel
theorem dX4_without_6 : decode cX4_without 6 = .ok (.iload_n 1, 1) := by decide +kernel
theorem dX4_without_7 : decode cX4_without 7 = .ok (.invokevirtual 63, 3) := by decide +kernel
theorem dX4_without_10 : decode cX4_without 10 = .ok (.ifCond .eq 11, 3) := by decide +kernel
theorem dX4_without_13 : decode cX4_without 13 = .ok (.aload_n 0, 1) := by decide +kernel
theorem dX4_without_14 : decode cX4_without 14 = .ok (.iload_n 2, 1) := by decide +kernel
theorem dX4_without_15 : decode cX4_without 15 = .ok (.invokevirtual 63, 3) := by decide +kernel
theorem dX4_without_18 : decode cX4_without 18 = .ok (.ifCond .ne 9, 3) := by decide +kernel
theorem dX4_without_21 : decode cX4_without 21 = .ok (.aload_n 0, 1) := by decide +kernel
theorem dX4_without_22 : decode cX4_without 22 = .ok (.iconst 1, 1) := by decide +kernel
theorem dX4_without_23 : decode cX4_without 23 = .ok (.invokevirtual 55, 3) := by decide +kernel
theorem dX4_without_26 : decode cX4_without 26 = .ok (.ireturn, 1) := by decide +kernel
theorem dX4_without_27 : decode cX4_without 27 = .ok (.iload_n 1, 1) := by decide +kernel
theorem dX4_without_28 : decode cX4_without 28 = .ok (.iload_n 2, 1) := by decide +kernel
theorem dX4_without_29 : decode cX4_without 29 = .ok (.if_icmp .ne 9, 3) := by decide +kernel
theorem dX4_without_32 : decode cX4_without 32 = .ok (.aload_n 0, 1) := by decide +kernel
theorem dX4_without_33 : decode cX4_without 33 = .ok (.iconst 2, 1) := by decide +kernel
theorem dX4_without_34 : decode cX4_without 34 = .ok (.invokevirtual 55, 3) := by decide +kernel
theorem dX4_without_37 : decode cX4_without 37 = .ok (.ireturn, 1) := by decide +kernel
theorem dX4_without_38 : decode cX4_without 38 = .ok (.aload_n 0, 1) := by decide +kernel
theorem dX4_without_39 : decode cX4_without 39 = .ok (.iload_n 2, 1) := by decide +kernel
theorem dX4_without_40 : decode cX4_without 40 = .ok (.putfield 35, 3) := by decide +kernel
theorem dX4_without_43 : decode cX4_without 43 = .ok (.aload_n 0, 1) := by decide +kernel
theorem dX4_without_44 : decode cX4_without 44 = .ok (.invokevirtual 109, 3) := by decide +kernel
theorem dX4_without_47 : decode cX4_without 47 = .ok (.aload_n 0, 1) := by decide +kernel
theorem dX4_without_48 : decode cX4_without 48 = .ok (.iconst (-1), 1) := by decide +kernel
theorem dX4_without_49 : decode cX4_without 49 = .ok (.putfield 35, 3) := by decide +kernel
theorem dX4_without_52 : decode cX4_without 52 = .ok (.aload_n 0, 1) := by decide +kernel
theorem dX4_without_53 : decode cX4_without 53 = .ok (.getfield 19, 3) := by decide +kernel
theorem dX4_without_56 : decode cX4_without 56 = .ok (.iload_n 1, 1) := by decide +kernel
theorem dX4_without_57 : decode cX4_without 57 = .ok (.iaload, 1) := by decide +kernel
theorem dX4_without_58 : decode cX4_without 58 = .ok (.ireturn, 1) := by decide +kernel
set_option maxRecDepth 20000 in
theorem ggX4_feign_X4_isKeeper : GoodIn wsX4_feign wsX4_isKeeper := goodIn_r _ [10, 11, 12, 13, 9, 14, 69, 70, 71, 72, 73, 74, 75, 76, 77, 78, 79, 80, 81, 82, 83, 84] (by decide +kernel) (by decide +kernel)
set_option maxRecDepth 20000 in
theorem gX4_feign_X4_isKeeper : GoodIn wsX4_feign (wsV RX4 63 RX4 yX4_isKeeper wsX4_isKeeper) := goodIn_app (goodIn_of _ (by decide +kernel)) ggX4_feign_X4_isKeeper
set_option maxRecDepth 20000 in
theorem ggX4_feign_X4_fail : GoodIn wsX4_feign wsX4_fail := goodIn_r _ [18, 1, 69, 70, 71, 72, 73, 74, 75, 76, 77, 78, 79, 80, 81, 82, 83, 84] (by decide +kernel) (by decide +kernel)
set_option maxRecDepth 20000 in
theorem gX4_feign_X4_fail : GoodIn wsX4_feign (wsV RX4 55 RX4 yX4_fail wsX4_fail) := goodIn_app (goodIn_of _ (by decide +kernel)) ggX4_feign_X4_fail
set_option maxRecDepth 20000 in
theorem ggX4_feign_X4_solve : GoodIn wsX4_feign wsX4_solve := goodIn_r _ [22, 23, 24, 25, 9, 26, 11, 27, 28, 29, 30, 31, 32, 33, 34, 35, 36, 37, 38, 39, 40, 5, 3, 41, 42, 43, 44, 45, 46, 47, 48, 49, 50, 51, 52, 53, 54, 2, 4, 55, 56, 57, 58, 59, 60, 61, 62, 63, 64, 65, 66, 67, 68, 69, 70, 71, 72, 73, 74, 75, 76, 77, 78, 79, 80, 81, 82, 83, 84] (by decide +kernel) (by decide +kernel)
set_option maxRecDepth 20000 in
theorem gX4_feign_X4_solve : GoodIn wsX4_feign (wsV RX4 109 RX4 yX4_solve wsX4_solve) := goodIn_app (goodIn_of _ (by decide +kernel)) ggX4_feign_X4_solve
theorem dX4_feign_0 : decode cX4_feign 0 = .ok (.aload_n 0, 1) := by decide +kernel
theorem dX4_feign_1 : decode cX4_feign 1 = .ok (.iconst 0, 1) := by decide +kernel
theorem dX4_feign_2 : decode cX4_feign 2 = .ok (.putfield 45, 3) := by decide +kernel
theorem dX4_feign_5 : decode cX4_feign 5 = .ok (.aload_n 0, 1) := by decide +kernel
theorem dX4_feign_6 : decode cX4_feign 6 = .ok (.iload_n 1, 1) := by decide +kernel
theorem dX4_feign_7 : decode cX4_feign 7 = .ok (.invokevirtual 63, 3) := by decide +kernel
theorem dX4_feign_10 : decode cX4_feign 10 = .ok (.ifCond .eq 11, 3) := by decide +kernel
theorem dX4_feign_13 : decode cX4_feign 13 = .ok (.aload_n 0, 1) := by decide +kernel
theorem dX4_feign_14 : decode cX4_feign 14 = .ok (.iload_n 2, 1) := by decide +kernel
theorem dX4_feign_15 : decode cX4_feign 15 = .ok (.invokevirtual 63, 3) := by decide +kernel
theorem dX4_feign_18 : decode cX4_feign 18 = .ok (.ifCond .ne 9, 3) := by decide +kernel
theorem dX4_feign_21 : decode cX4_feign 21 = .ok (.aload_n 0, 1) := by decide +kernel
theorem dX4_feign_22 : decode cX4_feign 22 = .ok (.iconst 1, 1) := by decide +kernel
theorem dX4_feign_23 : decode cX4_feign 23 = .ok (.invokevirtual 55, 3) := by decide +kernel
theorem dX4_feign_26 : decode cX4_feign 26 = .ok (.ireturn, 1) := by decide +kernel
theorem dX4_feign_27 : decode cX4_feign 27 = .ok (.aload_n 0, 1) := by decide +kernel
theorem dX4_feign_28 : decode cX4_feign 28 = .ok (.iload_n 1, 1) := by decide +kernel
theorem dX4_feign_29 : decode cX4_feign 29 = .ok (.putfield 39, 3) := by decide +kernel
theorem dX4_feign_32 : decode cX4_feign 32 = .ok (.aload_n 0, 1) := by decide +kernel
theorem dX4_feign_33 : decode cX4_feign 33 = .ok (.iload_n 2, 1) := by decide +kernel
theorem dX4_feign_34 : decode cX4_feign 34 = .ok (.aload_n 0, 1) := by decide +kernel
theorem dX4_feign_35 : decode cX4_feign 35 = .ok (.getfield 9, 3) := by decide +kernel
theorem dX4_feign_38 : decode cX4_feign 38 = .ok (.iload_n 1, 1) := by decide +kernel
theorem dX4_feign_39 : decode cX4_feign 39 = .ok (.iaload, 1) := by decide +kernel
theorem dX4_feign_40 : decode cX4_feign 40 = .ok (.if_icmp .ne 7, 3) := by decide +kernel
theorem dX4_feign_43 : decode cX4_feign 43 = .ok (.iconst (-1), 1) := by decide +kernel
theorem dX4_feign_44 : decode cX4_feign 44 = .ok (.goto 4, 3) := by decide +kernel
theorem dX4_feign_47 : decode cX4_feign 47 = .ok (.iload_n 2, 1) := by decide +kernel
theorem dX4_feign_48 : decode cX4_feign 48 = .ok (.putfield 42, 3) := by decide +kernel
theorem dX4_feign_51 : decode cX4_feign 51 = .ok (.aload_n 0, 1) := by decide +kernel
theorem dX4_feign_52 : decode cX4_feign 52 = .ok (.invokevirtual 109, 3) := by decide +kernel
theorem dX4_feign_55 : decode cX4_feign 55 = .ok (.aload_n 0, 1) := by decide +kernel
theorem dX4_feign_56 : decode cX4_feign 56 = .ok (.iconst (-1), 1) := by decide +kernel
theorem dX4_feign_57 : decode cX4_feign 57 = .ok (.putfield 39, 3) := by decide +kernel
theorem dX4_feign_60 : decode cX4_feign 60 = .ok (.aload_n 0, 1) := by decide +kernel
theorem dX4_feign_61 : decode cX4_feign 61 = .ok (.iconst (-1), 1) := by decide +kernel
theorem dX4_feign_62 : decode cX4_feign 62 = .ok (.putfield 42, 3) := by decide +kernel
theorem dX4_feign_65 : decode cX4_feign 65 = .ok (.aload_n 0, 1) := by decide +kernel
theorem dX4_feign_66 : decode cX4_feign 66 = .ok (.getfield 19, 3) := by decide +kernel
theorem dX4_feign_69 : decode cX4_feign 69 = .ok (.iload_n 1, 1) := by decide +kernel
theorem dX4_feign_70 : decode cX4_feign 70 = .ok (.iaload, 1) := by decide +kernel
theorem dX4_feign_71 : decode cX4_feign 71 = .ok (.ireturn, 1) := by decide +kernel
set_option maxRecDepth 20000 in
theorem ggX4_move_X4_solve : GoodIn wsX4_move wsX4_solve := goodIn_r _ [10, 11, 12, 13, 9, 14, 2, 15, 16, 17, 18, 19, 20, 21, 22, 23, 24, 25, 26, 27, 28, 3, 4, 29, 30, 31, 32, 33, 34, 35, 36, 37, 38, 39, 40, 41, 42, 43, 44, 5, 45, 46, 47, 48, 49, 50, 51, 52, 53, 54, 55, 56, 57, 62, 63, 64, 65, 66, 67, 68, 69, 70, 71, 72, 73, 74, 75, 76, 77] (by decide +kernel) (by decide +kernel)
set_option maxRecDepth 20000 in
theorem gX4_move_X4_solve : GoodIn wsX4_move (wsV RX4 109 RX4 yX4_solve wsX4_solve) := goodIn_app (goodIn_of _ (by decide +kernel)) ggX4_move_X4_solve
set_option maxRecDepth 20000 in
theorem ggX4_move_X4_placeOf : GoodIn wsX4_move wsX4_placeOf := goodIn_r _ [61, 5, 49, 50, 51, 9, 52, 53, 62, 63, 64, 65, 66, 67, 68, 69, 70, 71, 72, 73, 74, 75, 76, 77] (by decide +kernel) (by decide +kernel)
set_option maxRecDepth 20000 in
theorem gX4_move_X4_placeOf : GoodIn wsX4_move (wsV RX4 67 RX4 yX4_placeOf wsX4_placeOf) := goodIn_app (goodIn_of _ (by decide +kernel)) ggX4_move_X4_placeOf
theorem dX4_move_0 : decode cX4_move 0 = .ok (.aload_n 0, 1) := by decide +kernel
theorem dX4_move_1 : decode cX4_move 1 = .ok (.iconst 0, 1) := by decide +kernel
theorem dX4_move_2 : decode cX4_move 2 = .ok (.putfield 45, 3) := by decide +kernel
theorem dX4_move_5 : decode cX4_move 5 = .ok (.aload_n 0, 1) := by decide +kernel
theorem dX4_move_6 : decode cX4_move 6 = .ok (.invokevirtual 109, 3) := by decide +kernel
theorem dX4_move_9 : decode cX4_move 9 = .ok (.iconst 0, 1) := by decide +kernel
theorem dX4_move_10 : decode cX4_move 10 = .ok (.istore_n 1, 1) := by decide +kernel
theorem dX4_move_11 : decode cX4_move 11 = .ok (.iconst 0, 1) := by decide +kernel
theorem dX4_move_12 : decode cX4_move 12 = .ok (.istore_n 2, 1) := by decide +kernel
theorem dX4_move_13 : decode cX4_move 13 = .ok (.iload_n 2, 1) := by decide +kernel
theorem dX4_move_14 : decode cX4_move 14 = .ok (.aload_n 0, 1) := by decide +kernel
theorem dX4_move_15 : decode cX4_move 15 = .ok (.getfield 48, 3) := by decide +kernel
theorem dX4_move_18 : decode cX4_move 18 = .ok (.if_icmp .ge 47, 3) := by decide +kernel
theorem dX4_move_21 : decode cX4_move 21 = .ok (.aload_n 0, 1) := by decide +kernel
theorem dX4_move_22 : decode cX4_move 22 = .ok (.getfield 19, 3) := by decide +kernel
theorem dX4_move_25 : decode cX4_move 25 = .ok (.iload_n 2, 1) := by decide +kernel
theorem dX4_move_26 : decode cX4_move 26 = .ok (.iaload, 1) := by decide +kernel
theorem dX4_move_27 : decode cX4_move 27 = .ok (.aload_n 0, 1) := by decide +kernel
theorem dX4_move_28 : decode cX4_move 28 = .ok (.getfield 9, 3) := by decide +kernel
theorem dX4_move_31 : decode cX4_move 31 = .ok (.iload_n 2, 1) := by decide +kernel
theorem dX4_move_32 : decode cX4_move 32 = .ok (.iaload, 1) := by decide +kernel
theorem dX4_move_33 : decode cX4_move 33 = .ok (.if_icmp .ne 6, 3) := by decide +kernel
theorem dX4_move_36 : decode cX4_move 36 = .ok (.goto 23, 3) := by decide +kernel
theorem dX4_move_39 : decode cX4_move 39 = .ok (.aload_n 0, 1) := by decide +kernel
theorem dX4_move_40 : decode cX4_move 40 = .ok (.getfield 13, 3) := by decide +kernel
theorem dX4_move_43 : decode cX4_move 43 = .ok (.iload_n 2, 1) := by decide +kernel
theorem dX4_move_44 : decode cX4_move 44 = .ok (.aload_n 0, 1) := by decide +kernel
theorem dX4_move_45 : decode cX4_move 45 = .ok (.iload_n 2, 1) := by decide +kernel
theorem dX4_move_46 : decode cX4_move 46 = .ok (.aload_n 0, 1) := by decide +kernel
theorem dX4_move_47 : decode cX4_move 47 = .ok (.getfield 19, 3) := by decide +kernel
theorem dX4_move_50 : decode cX4_move 50 = .ok (.iload_n 2, 1) := by decide +kernel
theorem dX4_move_51 : decode cX4_move 51 = .ok (.iaload, 1) := by decide +kernel
theorem dX4_move_52 : decode cX4_move 52 = .ok (.invokevirtual 67, 3) := by decide +kernel
theorem dX4_move_55 : decode cX4_move 55 = .ok (.iastore, 1) := by decide +kernel
theorem dX4_move_56 : decode cX4_move 56 = .ok (.iinc 1 1, 3) := by decide +kernel
theorem dX4_move_59 : decode cX4_move 59 = .ok (.iinc 2 1, 3) := by decide +kernel
theorem dX4_move_62 : decode cX4_move 62 = .ok (.goto (-49), 3) := by decide +kernel
theorem dX4_move_65 : decode cX4_move 65 = .ok (.iconst 0, 1) := by decide +kernel
theorem dX4_move_66 : decode cX4_move 66 = .ok (.istore_n 2, 1) := by decide +kernel
theorem dX4_move_67 : decode cX4_move 67 = .ok (.iload_n 2, 1) := by decide +kernel
theorem dX4_move_68 : decode cX4_move 68 = .ok (.aload_n 0, 1) := by decide +kernel
theorem dX4_move_69 : decode cX4_move 69 = .ok (.getfield 48, 3) := by decide +kernel
theorem dX4_move_72 : decode cX4_move 72 = .ok (.if_icmp .ge 21, 3) := by decide +kernel
theorem dX4_move_75 : decode cX4_move 75 = .ok (.aload_n 0, 1) := by decide +kernel
theorem dX4_move_76 : decode cX4_move 76 = .ok (.getfield 9, 3) := by decide +kernel
theorem dX4_move_79 : decode cX4_move 79 = .ok (.iload_n 2, 1) := by decide +kernel
theorem dX4_move_80 : decode cX4_move 80 = .ok (.aload_n 0, 1) := by decide +kernel
theorem dX4_move_81 : decode cX4_move 81 = .ok (.getfield 19, 3) := by decide +kernel
theorem dX4_move_84 : decode cX4_move 84 = .ok (.iload_n 2, 1) := by decide +kernel
theorem dX4_move_85 : decode cX4_move 85 = .ok (.iaload, 1) := by decide +kernel
theorem dX4_move_86 : decode cX4_move 86 = .ok (.iastore, 1) := by decide +kernel
theorem dX4_move_87 : decode cX4_move 87 = .ok (.iinc 2 1, 3) := by decide +kernel
theorem dX4_move_90 : decode cX4_move 90 = .ok (.goto (-23), 3) := by decide +kernel
theorem dX4_move_93 : decode cX4_move 93 = .ok (.iload_n 1, 1) := by decide +kernel
theorem dX4_move_94 : decode cX4_move 94 = .ok (.ireturn, 1) := by decide +kernel
set_option maxRecDepth 20000 in
theorem ggX4_mean_X4_solve : GoodIn wsX4_mean wsX4_solve := goodIn_r _ [8, 9, 10, 11, 7, 12, 2, 13, 14, 15, 16, 17, 18, 19, 20, 21, 22, 23, 24, 25, 26, 27, 28, 29, 3, 30, 31, 32, 33, 34, 35, 36, 37, 38, 39, 40, 41, 42, 43, 44, 45, 46, 47, 48, 49, 50, 51, 52, 53, 54, 55, 56, 57, 58, 59, 60, 61, 62, 63, 64, 65, 66, 67, 68, 69, 70, 71, 72, 73] (by decide +kernel) (by decide +kernel)
set_option maxRecDepth 20000 in
theorem gX4_mean_X4_solve : GoodIn wsX4_mean (wsV RX4 109 RX4 yX4_solve wsX4_solve) := goodIn_app (goodIn_of _ (by decide +kernel)) ggX4_mean_X4_solve
theorem dX4_mean_0 : decode cX4_mean 0 = .ok (.aload_n 0, 1) := by decide +kernel
theorem dX4_mean_1 : decode cX4_mean 1 = .ok (.iconst 0, 1) := by decide +kernel
theorem dX4_mean_2 : decode cX4_mean 2 = .ok (.putfield 45, 3) := by decide +kernel
theorem dX4_mean_5 : decode cX4_mean 5 = .ok (.aload_n 0, 1) := by decide +kernel
theorem dX4_mean_6 : decode cX4_mean 6 = .ok (.invokevirtual 109, 3) := by decide +kernel
theorem dX4_mean_9 : decode cX4_mean 9 = .ok (.iconst 0, 1) := by decide +kernel
theorem dX4_mean_10 : decode cX4_mean 10 = .ok (.istore_n 1, 1) := by decide +kernel
theorem dX4_mean_11 : decode cX4_mean 11 = .ok (.iconst 0, 1) := by decide +kernel
theorem dX4_mean_12 : decode cX4_mean 12 = .ok (.istore_n 2, 1) := by decide +kernel
theorem dX4_mean_13 : decode cX4_mean 13 = .ok (.iload_n 2, 1) := by decide +kernel
theorem dX4_mean_14 : decode cX4_mean 14 = .ok (.aload_n 0, 1) := by decide +kernel
theorem dX4_mean_15 : decode cX4_mean 15 = .ok (.getfield 48, 3) := by decide +kernel
theorem dX4_mean_18 : decode cX4_mean 18 = .ok (.if_icmp .ge 18, 3) := by decide +kernel
