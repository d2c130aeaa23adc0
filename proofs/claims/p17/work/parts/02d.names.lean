theorem dX2_aimAll_20 : decode cX2_aimAll 20 = .ok (.iload_n 1, 1) := by decide +kernel
theorem dX2_aimAll_21 : decode cX2_aimAll 21 = .ok (.invokevirtual 83, 3) := by decide +kernel
theorem dX2_aimAll_24 : decode cX2_aimAll 24 = .ok (.ifCond .eq 12, 3) := by decide +kernel
theorem dX2_aimAll_27 : decode cX2_aimAll 27 = .ok (.aload_n 0, 1) := by decide +kernel
theorem dX2_aimAll_28 : decode cX2_aimAll 28 = .ok (.iload_n 2, 1) := by decide +kernel
theorem dX2_aimAll_29 : decode cX2_aimAll 29 = .ok (.iload_n 1, 1) := by decide +kernel
theorem dX2_aimAll_30 : decode cX2_aimAll 30 = .ok (.invokevirtual 101, 3) := by decide +kernel
theorem dX2_aimAll_33 : decode cX2_aimAll 33 = .ok (.goto 4, 3) := by decide +kernel
theorem dX2_aimAll_36 : decode cX2_aimAll 36 = .ok (.iconst (-1), 1) := by decide +kernel
theorem dX2_aimAll_37 : decode cX2_aimAll 37 = .ok (.invokevirtual 50, 3) := by decide +kernel
theorem dX2_aimAll_40 : decode cX2_aimAll 40 = .ok (.iinc 2 1, 3) := by decide +kernel
theorem dX2_aimAll_43 : decode cX2_aimAll 43 = .ok (.goto (-41), 3) := by decide +kernel
theorem dX2_aimAll_46 : decode cX2_aimAll 46 = .ok (.return_, 1) := by decide +kernel
set_option maxRecDepth 20000 in
theorem ggX2_closeRings_X1_size : GoodIn wsX2_closeRings wsX1_size := goodIn_r _ [7, 8, 51, 52] (by decide +kernel) (by decide +kernel)
set_option maxRecDepth 20000 in
theorem gX2_closeRings_X1_size : GoodIn wsX2_closeRings (wsV RX2 77 RX1 yX1_size wsX1_size) := goodIn_app (goodIn_of _ (by decide +kernel)) ggX2_closeRings_X1_size
set_option maxRecDepth 20000 in
theorem ggX2_closeRings_X1_at : GoodIn wsX2_closeRings wsX1_at := goodIn_r _ [12, 8, 13, 51, 52] (by decide +kernel) (by decide +kernel)
set_option maxRecDepth 20000 in
theorem gX2_closeRings_X1_at : GoodIn wsX2_closeRings (wsV RX2 63 RX1 yX1_at wsX1_at) := goodIn_app (goodIn_of _ (by decide +kernel)) ggX2_closeRings_X1_at
set_option maxRecDepth 20000 in
theorem ggX2_closeRings_X2_stepsBackTo : GoodIn wsX2_closeRings wsX2_stepsBackTo := goodIn_r _ [18, 1, 9, 10, 11, 6, 12, 8, 13, 42, 43, 44, 45, 46, 47, 48, 49, 50, 51, 52] (by decide +kernel) (by decide +kernel)
set_option maxRecDepth 20000 in
theorem gX2_closeRings_X2_stepsBackTo : GoodIn wsX2_closeRings (wsV RX2 105 RX2 yX2_stepsBackTo wsX2_stepsBackTo) := goodIn_app (goodIn_of _ (by decide +kernel)) ggX2_closeRings_X2_stepsBackTo
set_option maxRecDepth 20000 in
theorem ggX2_closeRings_X2_closeRing : GoodIn wsX2_closeRings wsX2_closeRing := goodIn_r _ [22, 1, 23, 24, 2, 25, 26, 9, 10, 11, 6, 12, 8, 13, 27, 28, 29, 30, 31, 32, 33, 34, 35, 36, 37, 38, 39, 40, 41, 42, 43, 44, 45, 46, 47, 48, 49, 50, 51, 52, 53, 54, 55] (by decide +kernel) (by decide +kernel)
set_option maxRecDepth 20000 in
theorem gX2_closeRings_X2_closeRing : GoodIn wsX2_closeRings (wsV RX2 108 RX2 yX2_closeRing wsX2_closeRing) := goodIn_app (goodIn_of _ (by decide +kernel)) ggX2_closeRings_X2_closeRing
theorem dX2_closeRings_0 : decode cX2_closeRings 0 = .ok (.iconst 0, 1) := by decide +kernel
theorem dX2_closeRings_1 : decode cX2_closeRings 1 = .ok (.istore_n 2, 1) := by decide +kernel
theorem dX2_closeRings_2 : decode cX2_closeRings 2 = .ok (.iload_n 2, 1) := by decide +kernel
theorem dX2_closeRings_3 : decode cX2_closeRings 3 = .ok (.aload_n 0, 1) := by decide +kernel
theorem dX2_closeRings_4 : decode cX2_closeRings 4 = .ok (.getfield 24, 3) := by decide +kernel
theorem dX2_closeRings_7 : decode cX2_closeRings 7 = .ok (.invokevirtual 77, 3) := by decide +kernel
theorem dX2_closeRings_10 : decode cX2_closeRings 10 = .ok (.if_icmp .ge 41, 3) := by decide +kernel
theorem dX2_closeRings_13 : decode cX2_closeRings 13 = .ok (.aload_n 0, 1) := by decide +kernel
theorem dX2_closeRings_14 : decode cX2_closeRings 14 = .ok (.getfield 18, 3) := by decide +kernel
theorem dX2_closeRings_17 : decode cX2_closeRings 17 = .ok (.iload_n 2, 1) := by decide +kernel
theorem dX2_closeRings_18 : decode cX2_closeRings 18 = .ok (.invokevirtual 63, 3) := by decide +kernel
theorem dX2_closeRings_21 : decode cX2_closeRings 21 = .ok (.ifCond .ne 11, 3) := by decide +kernel
theorem dX2_closeRings_24 : decode cX2_closeRings 24 = .ok (.aload_n 0, 1) := by decide +kernel
theorem dX2_closeRings_25 : decode cX2_closeRings 25 = .ok (.iload_n 2, 1) := by decide +kernel
theorem dX2_closeRings_26 : decode cX2_closeRings 26 = .ok (.invokevirtual 105, 3) := by decide +kernel
theorem dX2_closeRings_29 : decode cX2_closeRings 29 = .ok (.goto 4, 3) := by decide +kernel
theorem dX2_closeRings_32 : decode cX2_closeRings 32 = .ok (.iconst 0, 1) := by decide +kernel
theorem dX2_closeRings_33 : decode cX2_closeRings 33 = .ok (.istore_n 3, 1) := by decide +kernel
theorem dX2_closeRings_34 : decode cX2_closeRings 34 = .ok (.iload_n 3, 1) := by decide +kernel
theorem dX2_closeRings_35 : decode cX2_closeRings 35 = .ok (.ifCond .le 10, 3) := by decide +kernel
theorem dX2_closeRings_38 : decode cX2_closeRings 38 = .ok (.aload_n 0, 1) := by decide +kernel
theorem dX2_closeRings_39 : decode cX2_closeRings 39 = .ok (.iload_n 2, 1) := by decide +kernel
theorem dX2_closeRings_40 : decode cX2_closeRings 40 = .ok (.iload_n 3, 1) := by decide +kernel
theorem dX2_closeRings_41 : decode cX2_closeRings 41 = .ok (.iload_n 1, 1) := by decide +kernel
theorem dX2_closeRings_42 : decode cX2_closeRings 42 = .ok (.invokevirtual 108, 3) := by decide +kernel
theorem dX2_closeRings_45 : decode cX2_closeRings 45 = .ok (.iinc 2 1, 3) := by decide +kernel
theorem dX2_closeRings_48 : decode cX2_closeRings 48 = .ok (.goto (-46), 3) := by decide +kernel
theorem dX2_closeRings_51 : decode cX2_closeRings 51 = .ok (.return_, 1) := by decide +kernel
set_option maxRecDepth 20000 in
theorem ggX2_stepsBackTo_X1_at : GoodIn wsX2_stepsBackTo wsX1_at := goodIn_r _ [6, 7, 8, 18, 19] (by decide +kernel) (by decide +kernel)
set_option maxRecDepth 20000 in
theorem gX2_stepsBackTo_X1_at : GoodIn wsX2_stepsBackTo (wsV RX2 63 RX1 yX1_at wsX1_at) := goodIn_app (goodIn_of _ (by decide +kernel)) ggX2_stepsBackTo_X1_at
theorem dX2_stepsBackTo_0 : decode cX2_stepsBackTo 0 = .ok (.iload_n 1, 1) := by decide +kernel
theorem dX2_stepsBackTo_1 : decode cX2_stepsBackTo 1 = .ok (.istore_n 2, 1) := by decide +kernel
theorem dX2_stepsBackTo_2 : decode cX2_stepsBackTo 2 = .ok (.iconst 1, 1) := by decide +kernel
theorem dX2_stepsBackTo_3 : decode cX2_stepsBackTo 3 = .ok (.istore_n 3, 1) := by decide +kernel
theorem dX2_stepsBackTo_4 : decode cX2_stepsBackTo 4 = .ok (.iload_n 3, 1) := by decide +kernel
theorem dX2_stepsBackTo_5 : decode cX2_stepsBackTo 5 = .ok (.bipush 10, 2) := by decide +kernel
theorem dX2_stepsBackTo_7 : decode cX2_stepsBackTo 7 = .ok (.if_icmp .gt 25, 3) := by decide +kernel
theorem dX2_stepsBackTo_10 : decode cX2_stepsBackTo 10 = .ok (.aload_n 0, 1) := by decide +kernel
theorem dX2_stepsBackTo_11 : decode cX2_stepsBackTo 11 = .ok (.getfield 24, 3) := by decide +kernel
theorem dX2_stepsBackTo_14 : decode cX2_stepsBackTo 14 = .ok (.iload_n 2, 1) := by decide +kernel
theorem dX2_stepsBackTo_15 : decode cX2_stepsBackTo 15 = .ok (.invokevirtual 63, 3) := by decide +kernel
theorem dX2_stepsBackTo_18 : decode cX2_stepsBackTo 18 = .ok (.istore_n 2, 1) := by decide +kernel
theorem dX2_stepsBackTo_19 : decode cX2_stepsBackTo 19 = .ok (.iload_n 2, 1) := by decide +kernel
theorem dX2_stepsBackTo_20 : decode cX2_stepsBackTo 20 = .ok (.iload_n 1, 1) := by decide +kernel
theorem dX2_stepsBackTo_21 : decode cX2_stepsBackTo 21 = .ok (.if_icmp .ne 5, 3) := by decide +kernel
theorem dX2_stepsBackTo_24 : decode cX2_stepsBackTo 24 = .ok (.iload_n 3, 1) := by decide +kernel
theorem dX2_stepsBackTo_25 : decode cX2_stepsBackTo 25 = .ok (.ireturn, 1) := by decide +kernel
theorem dX2_stepsBackTo_26 : decode cX2_stepsBackTo 26 = .ok (.iinc 3 1, 3) := by decide +kernel
theorem dX2_stepsBackTo_29 : decode cX2_stepsBackTo 29 = .ok (.goto (-25), 3) := by decide +kernel
theorem dX2_stepsBackTo_32 : decode cX2_stepsBackTo 32 = .ok (.iconst 0, 1) := by decide +kernel
theorem dX2_stepsBackTo_33 : decode cX2_stepsBackTo 33 = .ok (.ireturn, 1) := by decide +kernel
set_option maxRecDepth 20000 in
theorem ggX2_closeRing_X1_at : GoodIn wsX2_closeRing wsX1_at := goodIn_r _ [11, 12, 13, 38, 39] (by decide +kernel) (by decide +kernel)
set_option maxRecDepth 20000 in
theorem gX2_closeRing_X1_at : GoodIn wsX2_closeRing (wsV RX2 63 RX1 yX1_at wsX1_at) := goodIn_app (goodIn_of _ (by decide +kernel)) ggX2_closeRing_X1_at
set_option maxRecDepth 20000 in
theorem ggX2_closeRing_X0_hutOf : GoodIn wsX2_closeRing wsX0_hutOf := goodIn_r _ [18, 19, 20, 8, 9, 10, 11, 12, 13, 40, 41, 42, 38, 39] (by decide +kernel) (by decide +kernel)
set_option maxRecDepth 20000 in
theorem gX2_closeRing_X0_hutOf : GoodIn wsX2_closeRing (wsV RX2 54 RX0 yX0_hutOf wsX0_hutOf) := goodIn_app (goodIn_of _ (by decide +kernel)) ggX2_closeRing_X0_hutOf
set_option maxRecDepth 20000 in
theorem ggX2_closeRing_X1_put : GoodIn wsX2_closeRing wsX1_put := goodIn_r _ [24, 13, 25, 26, 27, 10, 28, 12, 38, 39] (by decide +kernel) (by decide +kernel)
set_option maxRecDepth 20000 in
theorem gX2_closeRing_X1_put : GoodIn wsX2_closeRing (wsV RX2 50 RX1 yX1_put wsX1_put) := goodIn_app (goodIn_of _ (by decide +kernel)) ggX2_closeRing_X1_put
theorem dX2_closeRing_0 : decode cX2_closeRing 0 = .ok (.iload_n 1, 1) := by decide +kernel
theorem dX2_closeRing_1 : decode cX2_closeRing 1 = .ok (.istore 4, 2) := by decide +kernel
theorem dX2_closeRing_3 : decode cX2_closeRing 3 = .ok (.iconst 0, 1) := by decide +kernel
theorem dX2_closeRing_4 : decode cX2_closeRing 4 = .ok (.istore 5, 2) := by decide +kernel
theorem dX2_closeRing_6 : decode cX2_closeRing 6 = .ok (.iload 5, 2) := by decide +kernel
theorem dX2_closeRing_8 : decode cX2_closeRing 8 = .ok (.iload_n 2, 1) := by decide +kernel
theorem dX2_closeRing_9 : decode cX2_closeRing 9 = .ok (.if_icmp .ge 62, 3) := by decide +kernel
theorem dX2_closeRing_12 : decode cX2_closeRing 12 = .ok (.aload_n 0, 1) := by decide +kernel
theorem dX2_closeRing_13 : decode cX2_closeRing 13 = .ok (.getfield 24, 3) := by decide +kernel
theorem dX2_closeRing_16 : decode cX2_closeRing 16 = .ok (.iload 4, 2) := by decide +kernel
theorem dX2_closeRing_18 : decode cX2_closeRing 18 = .ok (.invokevirtual 63, 3) := by decide +kernel
theorem dX2_closeRing_21 : decode cX2_closeRing 21 = .ok (.istore 6, 2) := by decide +kernel
theorem dX2_closeRing_23 : decode cX2_closeRing 23 = .ok (.aload_n 0, 1) := by decide +kernel
theorem dX2_closeRing_24 : decode cX2_closeRing 24 = .ok (.getfield 12, 3) := by decide +kernel
theorem dX2_closeRing_27 : decode cX2_closeRing 27 = .ok (.iload 4, 2) := by decide +kernel
theorem dX2_closeRing_29 : decode cX2_closeRing 29 = .ok (.aload_n 0, 1) := by decide +kernel
theorem dX2_closeRing_30 : decode cX2_closeRing 30 = .ok (.getfield 40, 3) := by decide +kernel
theorem dX2_closeRing_33 : decode cX2_closeRing 33 = .ok (.iload 6, 2) := by decide +kernel
theorem dX2_closeRing_35 : decode cX2_closeRing 35 = .ok (.invokevirtual 54, 3) := by decide +kernel
theorem dX2_closeRing_38 : decode cX2_closeRing 38 = .ok (.invokevirtual 50, 3) := by decide +kernel
theorem dX2_closeRing_41 : decode cX2_closeRing 41 = .ok (.aload_n 0, 1) := by decide +kernel
theorem dX2_closeRing_42 : decode cX2_closeRing 42 = .ok (.getfield 18, 3) := by decide +kernel
theorem dX2_closeRing_45 : decode cX2_closeRing 45 = .ok (.iload 4, 2) := by decide +kernel
theorem dX2_closeRing_47 : decode cX2_closeRing 47 = .ok (.iload_n 3, 1) := by decide +kernel
theorem dX2_closeRing_48 : decode cX2_closeRing 48 = .ok (.invokevirtual 50, 3) := by decide +kernel
theorem dX2_closeRing_51 : decode cX2_closeRing 51 = .ok (.aload_n 0, 1) := by decide +kernel
theorem dX2_closeRing_52 : decode cX2_closeRing 52 = .ok (.getfield 21, 3) := by decide +kernel
theorem dX2_closeRing_55 : decode cX2_closeRing 55 = .ok (.iload 4, 2) := by decide +kernel
theorem dX2_closeRing_57 : decode cX2_closeRing 57 = .ok (.iload_n 2, 1) := by decide +kernel
theorem dX2_closeRing_58 : decode cX2_closeRing 58 = .ok (.invokevirtual 50, 3) := by decide +kernel
theorem dX2_closeRing_61 : decode cX2_closeRing 61 = .ok (.iload 6, 2) := by decide +kernel
theorem dX2_closeRing_63 : decode cX2_closeRing 63 = .ok (.istore 4, 2) := by decide +kernel
theorem dX2_closeRing_65 : decode cX2_closeRing 65 = .ok (.iinc 5 1, 3) := by decide +kernel
theorem dX2_closeRing_68 : decode cX2_closeRing 68 = .ok (.goto (-62), 3) := by decide +kernel
theorem dX2_closeRing_71 : decode cX2_closeRing 71 = .ok (.iload_n 2, 1) := by decide +kernel
theorem dX2_closeRing_72 : decode cX2_closeRing 72 = .ok (.iconst 1, 1) := by decide +kernel
theorem dX2_closeRing_73 : decode cX2_closeRing 73 = .ok (.if_icmp .le 13, 3) := by decide +kernel
theorem dX2_closeRing_76 : decode cX2_closeRing 76 = .ok (.aload_n 0, 1) := by decide +kernel
theorem dX2_closeRing_77 : decode cX2_closeRing 77 = .ok (.dup, 1) := by decide +kernel
theorem dX2_closeRing_78 : decode cX2_closeRing 78 = .ok (.getfield 37, 3) := by decide +kernel
theorem dX2_closeRing_81 : decode cX2_closeRing 81 = .ok (.iconst 1, 1) := by decide +kernel
theorem dX2_closeRing_82 : decode cX2_closeRing 82 = .ok (.iadd, 1) := by decide +kernel
theorem dX2_closeRing_83 : decode cX2_closeRing 83 = .ok (.putfield 37, 3) := by decide +kernel
theorem dX2_closeRing_86 : decode cX2_closeRing 86 = .ok (.return_, 1) := by decide +kernel
set_option maxRecDepth 20000 in
theorem ggX3_init_X0_init : GoodIn wsX3_init wsX0_init := goodIn_r _ [15, 16, 2, 3, 17, 18, 19, 20, 21, 22, 23, 24, 25, 26, 27, 28, 58, 59, 43, 44, 45] (by decide +kernel) (by decide +kernel)
set_option maxRecDepth 20000 in
theorem gX3_init_X0_init : GoodIn wsX3_init (wsX0_init) := ggX3_init_X0_init
set_option maxRecDepth 20000 in
theorem ggX3_init_X2_init : GoodIn wsX3_init wsX2_init := goodIn_r _ [31, 32, 2, 3, 33, 18, 19, 34, 35, 36, 37, 38, 39, 40, 41, 42, 23, 24, 25, 26, 27, 28, 58, 59, 49, 50, 51, 52, 53, 54, 55, 56, 57] (by decide +kernel) (by decide +kernel)
set_option maxRecDepth 20000 in
theorem gX3_init_X2_init : GoodIn wsX3_init (wsX2_init) := ggX3_init_X2_init
theorem dX3_init_0 : decode cX3_init 0 = .ok (.aload_n 0, 1) := by decide +kernel
theorem dX3_init_1 : decode cX3_init 1 = .ok (.invokespecial 1, 3) := by decide +kernel
theorem dX3_init_4 : decode cX3_init 4 = .ok (.aload_n 0, 1) := by decide +kernel
theorem dX3_init_5 : decode cX3_init 5 = .ok (.new 7, 3) := by decide +kernel
theorem dX3_init_8 : decode cX3_init 8 = .ok (.dup, 1) := by decide +kernel
theorem dX3_init_9 : decode cX3_init 9 = .ok (.invokespecial 9, 3) := by decide +kernel
theorem dX3_init_12 : decode cX3_init 12 = .ok (.putfield 10, 3) := by decide +kernel
theorem dX3_init_15 : decode cX3_init 15 = .ok (.aload_n 0, 1) := by decide +kernel
theorem dX3_init_16 : decode cX3_init 16 = .ok (.new 16, 3) := by decide +kernel
theorem dX3_init_19 : decode cX3_init 19 = .ok (.dup, 1) := by decide +kernel
theorem dX3_init_20 : decode cX3_init 20 = .ok (.aload_n 0, 1) := by decide +kernel
theorem dX3_init_21 : decode cX3_init 21 = .ok (.getfield 10, 3) := by decide +kernel
theorem dX3_init_24 : decode cX3_init 24 = .ok (.invokespecial 18, 3) := by decide +kernel
theorem dX3_init_27 : decode cX3_init 27 = .ok (.putfield 21, 3) := by decide +kernel
theorem dX3_init_30 : decode cX3_init 30 = .ok (.aload_n 0, 1) := by decide +kernel
theorem dX3_init_31 : decode cX3_init 31 = .ok (.new 16, 3) := by decide +kernel
theorem dX3_init_34 : decode cX3_init 34 = .ok (.dup, 1) := by decide +kernel
theorem dX3_init_35 : decode cX3_init 35 = .ok (.aload_n 0, 1) := by decide +kernel
theorem dX3_init_36 : decode cX3_init 36 = .ok (.getfield 10, 3) := by decide +kernel
theorem dX3_init_39 : decode cX3_init 39 = .ok (.invokespecial 18, 3) := by decide +kernel
theorem dX3_init_42 : decode cX3_init 42 = .ok (.putfield 25, 3) := by decide +kernel
theorem dX3_init_45 : decode cX3_init 45 = .ok (.return_, 1) := by decide +kernel
set_option maxRecDepth 20000 in
theorem ggX3_come_X0_size : GoodIn wsX3_come wsX0_size := goodIn_r _ [9, 10, 11, 12, 13, 14, 15, 16, 115, 116, 117, 118, 119] (by decide +kernel) (by decide +kernel)
set_option maxRecDepth 20000 in
theorem gX3_come_X0_size : GoodIn wsX3_come (wsV RX3 28 RX0 yX0_size wsX0_size) := goodIn_app (goodIn_of _ (by decide +kernel)) ggX3_come_X0_size
set_option maxRecDepth 20000 in
theorem ggX3_come_X0_settle : GoodIn wsX3_come wsX0_settle := goodIn_r _ [20, 10, 11, 12, 13, 14, 15, 16, 21, 22, 23, 24, 25, 26, 27, 28, 29, 30, 31, 32, 33, 34, 35, 36, 37, 115, 116, 117, 118, 119] (by decide +kernel) (by decide +kernel)
set_option maxRecDepth 20000 in
theorem gX3_come_X0_settle : GoodIn wsX3_come (wsV RX3 39 RX0 yX0_settle wsX0_settle) := goodIn_app (goodIn_of _ (by decide +kernel)) ggX3_come_X0_settle
set_option maxRecDepth 20000 in
theorem ggX3_come_X2_runForAll : GoodIn wsX3_come wsX2_runForAll := goodIn_r _ [42, 43, 44, 45, 41, 46, 47, 48, 49, 50, 51, 52, 53, 54, 55, 56, 6, 7, 8, 9, 10, 11, 12, 13, 14, 15, 16, 57, 58, 59, 60, 25, 30, 31, 32, 33, 34, 35, 36, 37, 61, 62, 63, 64, 65, 66, 67, 68, 69, 70, 71, 72, 73, 74, 75, 76, 77, 78, 27, 28, 29, 79, 80, 81, 82, 83, 84, 85, 86, 87, 88, 89, 90, 91, 92, 93, 94, 95, 96, 97, 98, 99, 100, 101, 102, 103, 104, 105, 106, 107, 108, 109, 110, 111, 120, 121, 122, 123, 124, 125, 126, 127, 128, 115, 116, 117, 118, 119] (by decide +kernel) (by decide +kernel)
set_option maxRecDepth 20000 in
theorem gX3_come_X2_runForAll : GoodIn wsX3_come (wsV RX3 42 RX2 yX2_runForAll wsX2_runForAll) := goodIn_app (goodIn_of _ (by decide +kernel)) ggX3_come_X2_runForAll
theorem dX3_come_0 : decode cX3_come 0 = .ok (.aload_n 0, 1) := by decide +kernel
theorem dX3_come_1 : decode cX3_come 1 = .ok (.getfield 10, 3) := by decide +kernel
theorem dX3_come_4 : decode cX3_come 4 = .ok (.invokevirtual 28, 3) := by decide +kernel
theorem dX3_come_7 : decode cX3_come 7 = .ok (.bipush 10, 2) := by decide +kernel
theorem dX3_come_9 : decode cX3_come 9 = .ok (.if_icmp .lt 13, 3) := by decide +kernel
theorem dX3_come_12 : decode cX3_come 12 = .ok (.new 32, 3) := by decide +kernel
theorem dX3_come_15 : decode cX3_come 15 = .ok (.dup, 1) := by decide +kernel
theorem dX3_come_16 : decode cX3_come 16 = .ok (.ldc 34, 2) := by decide +kernel
theorem dX3_come_18 : decode cX3_come 18 = .ok (.invokespecial 36, 3) := by decide +kernel
theorem dX3_come_21 : decode cX3_come 21 = .ok (.athrow, 1) := by decide +kernel
theorem dX3_come_22 : decode cX3_come 22 = .ok (.aload_n 0, 1) := by decide +kernel
theorem dX3_come_23 : decode cX3_come 23 = .ok (.getfield 10, 3) := by decide +kernel
theorem dX3_come_26 : decode cX3_come 26 = .ok (.invokevirtual 39, 3) := by decide +kernel
theorem dX3_come_29 : decode cX3_come 29 = .ok (.istore_n 1, 1) := by decide +kernel
theorem dX3_come_30 : decode cX3_come 30 = .ok (.aload_n 0, 1) := by decide +kernel
theorem dX3_come_31 : decode cX3_come 31 = .ok (.getfield 21, 3) := by decide +kernel
theorem dX3_come_34 : decode cX3_come 34 = .ok (.invokevirtual 42, 3) := by decide +kernel
theorem dX3_come_37 : decode cX3_come 37 = .ok (.iload_n 1, 1) := by decide +kernel
theorem dX3_come_38 : decode cX3_come 38 = .ok (.ireturn, 1) := by decide +kernel
set_option maxRecDepth 20000 in
theorem ggX3_wish_X3_needKeeper : GoodIn wsX3_wish wsX3_needKeeper := goodIn_ca (goodIn_r _ [11, 1, 2, 5, 12, 13, 14, 15, 16, 17, 18, 19, 20, 21, 22, 23, 127, 128, 129, 130, 131, 132, 133, 134] (by decide +kernel) (by decide +kernel)) (goodIn_sub (fun _ h => List.mem_cons_of_mem _ (List.mem_append_left _ (List.mem_append_right _ h))) (by decide +kernel))
set_option maxRecDepth 20000 in
theorem gX3_wish_X3_needKeeper : GoodIn wsX3_wish (wsV RX3 45 RX3 yX3_needKeeper wsX3_needKeeper) := goodIn_app (goodIn_of _ (by decide +kernel)) ggX3_wish_X3_needKeeper
set_option maxRecDepth 20000 in
theorem ggX3_wish_X3_needHut : GoodIn wsX3_wish wsX3_needHut := goodIn_ca (goodIn_r _ [27, 1, 2, 5, 12, 13, 14, 15, 16, 17, 18, 19, 20, 21, 22, 23, 127, 128, 129, 130, 131, 132, 133, 134] (by decide +kernel) (by decide +kernel)) (goodIn_sub (fun _ h => List.mem_cons_of_mem _ (List.mem_append_left _ (List.mem_append_right _ h))) (by decide +kernel))
set_option maxRecDepth 20000 in
theorem gX3_wish_X3_needHut : GoodIn wsX3_wish (wsV RX3 49 RX3 yX3_needHut wsX3_needHut) := goodIn_app (goodIn_of _ (by decide +kernel)) ggX3_wish_X3_needHut
set_option maxRecDepth 20000 in
theorem ggX3_wish_X0_likesOf : GoodIn wsX3_wish wsX0_likesOf := goodIn_r _ [31, 32, 33, 130, 131, 132] (by decide +kernel) (by decide +kernel)
set_option maxRecDepth 20000 in
theorem gX3_wish_X0_likesOf : GoodIn wsX3_wish (wsV RX3 52 RX0 yX0_likesOf wsX0_likesOf) := goodIn_app (goodIn_of _ (by decide +kernel)) ggX3_wish_X0_likesOf
set_option maxRecDepth 20000 in
theorem ggX3_wish_X1_size : GoodIn wsX3_wish wsX1_size := goodIn_r _ [22, 23, 133, 134] (by decide +kernel) (by decide +kernel)
set_option maxRecDepth 20000 in
theorem gX3_wish_X1_size : GoodIn wsX3_wish (wsV RX3 56 RX1 yX1_size wsX1_size) := goodIn_app (goodIn_of _ (by decide +kernel)) ggX3_wish_X1_size
set_option maxRecDepth 20000 in
theorem ggX3_wish_X0_rankOf : GoodIn wsX3_wish wsX0_rankOf := goodIn_r _ [38, 39, 29, 30, 15, 31, 32, 33, 40, 41, 42, 43, 17, 44, 45, 46, 21, 47, 23, 48, 18, 19, 20, 22, 49, 50, 51, 52, 130, 131, 132, 133, 134] (by decide +kernel) (by decide +kernel)
set_option maxRecDepth 20000 in
theorem gX3_wish_X0_rankOf : GoodIn wsX3_wish (wsV RX3 64 RX0 yX0_rankOf wsX0_rankOf) := goodIn_app (goodIn_of _ (by decide +kernel)) ggX3_wish_X0_rankOf
set_option maxRecDepth 20000 in
theorem ggX3_wish_X1_insert : GoodIn wsX3_wish wsX1_insert := goodIn_r _ [56, 23, 48, 57, 45, 46, 21, 47, 58, 59, 60, 61, 62, 63, 64, 65, 133, 134] (by decide +kernel) (by decide +kernel)
set_option maxRecDepth 20000 in
theorem gX3_wish_X1_insert : GoodIn wsX3_wish (wsV RX3 70 RX1 yX1_insert wsX1_insert) := goodIn_app (goodIn_of _ (by decide +kernel)) ggX3_wish_X1_insert
set_option maxRecDepth 20000 in
theorem ggX3_wish_X2_runForAll : GoodIn wsX3_wish wsX2_runForAll := goodIn_r _ [70, 71, 72, 73, 69, 74, 75, 76, 77, 78, 79, 80, 81, 82, 83, 84, 13, 14, 15, 16, 17, 18, 19, 20, 21, 22, 23, 85, 86, 87, 88, 48, 58, 59, 60, 61, 62, 63, 64, 65, 89, 90, 91, 92, 93, 50, 51, 52, 94, 95, 96, 97, 98, 99, 100, 101, 102, 103, 45, 46, 47, 104, 105, 106, 107, 108, 29, 30, 31, 32, 33, 109, 110, 111, 112, 49, 113, 114, 115, 116, 117, 118, 119, 120, 121, 122, 123, 124, 125, 126, 41, 42, 43, 44, 135, 136, 137, 138, 139, 140, 141, 142, 143, 130, 131, 132, 133, 134] (by decide +kernel) (by decide +kernel)
set_option maxRecDepth 20000 in
theorem gX3_wish_X2_runForAll : GoodIn wsX3_wish (wsV RX3 42 RX2 yX2_runForAll wsX2_runForAll) := goodIn_app (goodIn_of _ (by decide +kernel)) ggX3_wish_X2_runForAll
theorem dX3_wish_0 : decode cX3_wish 0 = .ok (.aload_n 0, 1) := by decide +kernel
theorem dX3_wish_1 : decode cX3_wish 1 = .ok (.iload_n 1, 1) := by decide +kernel
theorem dX3_wish_2 : decode cX3_wish 2 = .ok (.invokevirtual 45, 3) := by decide +kernel
theorem dX3_wish_5 : decode cX3_wish 5 = .ok (.aload_n 0, 1) := by decide +kernel
theorem dX3_wish_6 : decode cX3_wish 6 = .ok (.iload_n 3, 1) := by decide +kernel
theorem dX3_wish_7 : decode cX3_wish 7 = .ok (.invokevirtual 49, 3) := by decide +kernel
theorem dX3_wish_10 : decode cX3_wish 10 = .ok (.aload_n 0, 1) := by decide +kernel
theorem dX3_wish_11 : decode cX3_wish 11 = .ok (.getfield 10, 3) := by decide +kernel
theorem dX3_wish_14 : decode cX3_wish 14 = .ok (.iload_n 1, 1) := by decide +kernel
theorem dX3_wish_15 : decode cX3_wish 15 = .ok (.invokevirtual 52, 3) := by decide +kernel
theorem dX3_wish_18 : decode cX3_wish 18 = .ok (.astore 4, 2) := by decide +kernel
theorem dX3_wish_20 : decode cX3_wish 20 = .ok (.iload_n 2, 1) := by decide +kernel
theorem dX3_wish_21 : decode cX3_wish 21 = .ok (.ifCond .lt 12, 3) := by decide +kernel
theorem dX3_wish_24 : decode cX3_wish 24 = .ok (.iload_n 2, 1) := by decide +kernel
theorem dX3_wish_25 : decode cX3_wish 25 = .ok (.aload 4, 2) := by decide +kernel
theorem dX3_wish_27 : decode cX3_wish 27 = .ok (.invokevirtual 56, 3) := by decide +kernel
theorem dX3_wish_30 : decode cX3_wish 30 = .ok (.if_icmp .le 13, 3) := by decide +kernel
theorem dX3_wish_33 : decode cX3_wish 33 = .ok (.new 59, 3) := by decide +kernel
theorem dX3_wish_36 : decode cX3_wish 36 = .ok (.dup, 1) := by decide +kernel
theorem dX3_wish_37 : decode cX3_wish 37 = .ok (.ldc 61, 2) := by decide +kernel
theorem dX3_wish_39 : decode cX3_wish 39 = .ok (.invokespecial 63, 3) := by decide +kernel
theorem dX3_wish_42 : decode cX3_wish 42 = .ok (.athrow, 1) := by decide +kernel
theorem dX3_wish_43 : decode cX3_wish 43 = .ok (.aload_n 0, 1) := by decide +kernel
theorem dX3_wish_44 : decode cX3_wish 44 = .ok (.getfield 10, 3) := by decide +kernel
theorem dX3_wish_47 : decode cX3_wish 47 = .ok (.iload_n 1, 1) := by decide +kernel
theorem dX3_wish_48 : decode cX3_wish 48 = .ok (.iload_n 3, 1) := by decide +kernel
theorem dX3_wish_49 : decode cX3_wish 49 = .ok (.invokevirtual 64, 3) := by decide +kernel
theorem dX3_wish_52 : decode cX3_wish 52 = .ok (.iconst (-1), 1) := by decide +kernel
theorem dX3_wish_53 : decode cX3_wish 53 = .ok (.if_icmp .eq 13, 3) := by decide +kernel
theorem dX3_wish_56 : decode cX3_wish 56 = .ok (.new 32, 3) := by decide +kernel
theorem dX3_wish_59 : decode cX3_wish 59 = .ok (.dup, 1) := by decide +kernel
theorem dX3_wish_60 : decode cX3_wish 60 = .ok (.ldc 68, 2) := by decide +kernel
theorem dX3_wish_62 : decode cX3_wish 62 = .ok (.invokespecial 36, 3) := by decide +kernel
theorem dX3_wish_65 : decode cX3_wish 65 = .ok (.athrow, 1) := by decide +kernel
theorem dX3_wish_66 : decode cX3_wish 66 = .ok (.aload 4, 2) := by decide +kernel
theorem dX3_wish_68 : decode cX3_wish 68 = .ok (.iload_n 2, 1) := by decide +kernel
theorem dX3_wish_69 : decode cX3_wish 69 = .ok (.iload_n 3, 1) := by decide +kernel
theorem dX3_wish_70 : decode cX3_wish 70 = .ok (.invokevirtual 70, 3) := by decide +kernel
theorem dX3_wish_73 : decode cX3_wish 73 = .ok (.aload_n 0, 1) := by decide +kernel
theorem dX3_wish_74 : decode cX3_wish 74 = .ok (.getfield 21, 3) := by decide +kernel
theorem dX3_wish_77 : decode cX3_wish 77 = .ok (.invokevirtual 42, 3) := by decide +kernel
theorem dX3_wish_80 : decode cX3_wish 80 = .ok (.aload 4, 2) := by decide +kernel
theorem dX3_wish_82 : decode cX3_wish 82 = .ok (.invokevirtual 56, 3) := by decide +kernel
theorem dX3_wish_85 : decode cX3_wish 85 = .ok (.ireturn, 1) := by decide +kernel
set_option maxRecDepth 20000 in
theorem ggX3_drop_X3_needKeeper : GoodIn wsX3_drop wsX3_needKeeper := goodIn_ca (goodIn_r _ [7, 8, 9, 1, 10, 11, 12, 13, 14, 15, 16, 17, 18, 19, 20, 21, 118, 119, 120, 121, 122, 123, 124, 125] (by decide +kernel) (by decide +kernel)) (goodIn_sub (fun _ h => List.mem_cons_of_mem _ (List.mem_append_right _ h)) (by decide +kernel))
set_option maxRecDepth 20000 in
theorem gX3_drop_X3_needKeeper : GoodIn wsX3_drop (wsV RX3 45 RX3 yX3_needKeeper wsX3_needKeeper) := goodIn_app (goodIn_of _ (by decide +kernel)) ggX3_drop_X3_needKeeper
set_option maxRecDepth 20000 in
theorem ggX3_drop_X0_likesOf : GoodIn wsX3_drop wsX0_likesOf := goodIn_r _ [25, 26, 27, 121, 122, 123] (by decide +kernel) (by decide +kernel)
set_option maxRecDepth 20000 in
theorem gX3_drop_X0_likesOf : GoodIn wsX3_drop (wsV RX3 52 RX0 yX0_likesOf wsX0_likesOf) := goodIn_app (goodIn_of _ (by decide +kernel)) ggX3_drop_X0_likesOf
set_option maxRecDepth 20000 in
theorem ggX3_drop_X3_needPlace : GoodIn wsX3_drop wsX3_needPlace := goodIn_ca (goodIn_r _ [30, 8, 9, 31, 17, 18, 19, 20, 21, 124, 125] (by decide +kernel) (by decide +kernel)) (goodIn_sub (fun _ h => List.mem_cons_of_mem _ (List.mem_append_right _ h)) (by decide +kernel))
set_option maxRecDepth 20000 in
theorem gX3_drop_X3_needPlace : GoodIn wsX3_drop (va_wsS RX3 74 yX3_needPlace wsX3_needPlace) := goodIn_app (goodIn_of _ (by decide +kernel)) ggX3_drop_X3_needPlace
set_option maxRecDepth 20000 in
theorem ggX3_drop_X1_take : GoodIn wsX3_drop wsX1_take := goodIn_r _ [35, 21, 36, 37, 38, 19, 39, 40, 41, 42, 43, 44, 45, 46, 47, 48, 124, 125] (by decide +kernel) (by decide +kernel)
set_option maxRecDepth 20000 in
theorem gX3_drop_X1_take : GoodIn wsX3_drop (wsV RX3 78 RX1 yX1_take wsX1_take) := goodIn_app (goodIn_of _ (by decide +kernel)) ggX3_drop_X1_take
set_option maxRecDepth 20000 in
theorem ggX3_drop_X2_runForAll : GoodIn wsX3_drop wsX2_runForAll := goodIn_r _ [53, 54, 55, 56, 52, 57, 58, 59, 60, 61, 62, 63, 64, 65, 66, 67, 11, 12, 13, 14, 15, 16, 17, 18, 19, 20, 21, 68, 69, 70, 71, 40, 45, 46, 47, 48, 36, 37, 38, 39, 72, 73, 74, 75, 76, 77, 78, 79, 80, 81, 82, 83, 84, 85, 86, 87, 88, 89, 42, 43, 44, 90, 91, 92, 93, 94, 23, 24, 25, 26, 27, 95, 96, 97, 98, 99, 100, 101, 102, 103, 104, 105, 106, 107, 108, 109, 110, 111, 112, 113, 114, 115, 116, 117, 126, 127, 128, 129, 130, 131, 132, 133, 134, 121, 122, 123, 124, 125] (by decide +kernel) (by decide +kernel)
set_option maxRecDepth 20000 in
theorem gX3_drop_X2_runForAll : GoodIn wsX3_drop (wsV RX3 42 RX2 yX2_runForAll wsX2_runForAll) := goodIn_app (goodIn_of _ (by decide +kernel)) ggX3_drop_X2_runForAll
theorem dX3_drop_0 : decode cX3_drop 0 = .ok (.aload_n 0, 1) := by decide +kernel
theorem dX3_drop_1 : decode cX3_drop 1 = .ok (.iload_n 1, 1) := by decide +kernel
theorem dX3_drop_2 : decode cX3_drop 2 = .ok (.invokevirtual 45, 3) := by decide +kernel
theorem dX3_drop_5 : decode cX3_drop 5 = .ok (.aload_n 0, 1) := by decide +kernel
theorem dX3_drop_6 : decode cX3_drop 6 = .ok (.getfield 10, 3) := by decide +kernel
theorem dX3_drop_9 : decode cX3_drop 9 = .ok (.iload_n 1, 1) := by decide +kernel
theorem dX3_drop_10 : decode cX3_drop 10 = .ok (.invokevirtual 52, 3) := by decide +kernel
theorem dX3_drop_13 : decode cX3_drop 13 = .ok (.astore_n 3, 1) := by decide +kernel
theorem dX3_drop_14 : decode cX3_drop 14 = .ok (.aload_n 3, 1) := by decide +kernel
theorem dX3_drop_15 : decode cX3_drop 15 = .ok (.iload_n 2, 1) := by decide +kernel
theorem dX3_drop_16 : decode cX3_drop 16 = .ok (.invokestatic 74, 3) := by decide +kernel
theorem dX3_drop_19 : decode cX3_drop 19 = .ok (.aload_n 3, 1) := by decide +kernel
theorem dX3_drop_20 : decode cX3_drop 20 = .ok (.iload_n 2, 1) := by decide +kernel
theorem dX3_drop_21 : decode cX3_drop 21 = .ok (.invokevirtual 78, 3) := by decide +kernel
theorem dX3_drop_24 : decode cX3_drop 24 = .ok (.istore 4, 2) := by decide +kernel
theorem dX3_drop_26 : decode cX3_drop 26 = .ok (.aload_n 0, 1) := by decide +kernel
theorem dX3_drop_27 : decode cX3_drop 27 = .ok (.getfield 21, 3) := by decide +kernel
theorem dX3_drop_30 : decode cX3_drop 30 = .ok (.invokevirtual 42, 3) := by decide +kernel
theorem dX3_drop_33 : decode cX3_drop 33 = .ok (.iload 4, 2) := by decide +kernel
theorem dX3_drop_35 : decode cX3_drop 35 = .ok (.ireturn, 1) := by decide +kernel
set_option maxRecDepth 20000 in
theorem ggX3_list_X3_needKeeper : GoodIn wsX3_list wsX3_needKeeper := goodIn_ca (goodIn_r _ [6, 7, 8, 1, 9, 10, 11, 12, 13, 14, 15, 16, 17, 18, 19, 20, 36, 37, 38, 39, 40, 41, 42, 43] (by decide +kernel) (by decide +kernel)) (goodIn_sub (fun _ h => List.mem_cons_of_mem _ (List.mem_append_right _ h)) (by decide +kernel))
set_option maxRecDepth 20000 in
theorem gX3_list_X3_needKeeper : GoodIn wsX3_list (wsV RX3 45 RX3 yX3_needKeeper wsX3_needKeeper) := goodIn_app (goodIn_of _ (by decide +kernel)) ggX3_list_X3_needKeeper
set_option maxRecDepth 20000 in
theorem ggX3_list_X0_likesOf : GoodIn wsX3_list wsX0_likesOf := goodIn_r _ [24, 25, 26, 39, 40, 41] (by decide +kernel) (by decide +kernel)
set_option maxRecDepth 20000 in
theorem gX3_list_X0_likesOf : GoodIn wsX3_list (wsV RX3 52 RX0 yX0_likesOf wsX0_likesOf) := goodIn_app (goodIn_of _ (by decide +kernel)) ggX3_list_X0_likesOf
set_option maxRecDepth 20000 in
theorem ggX3_list_X3_needPlace : GoodIn wsX3_list wsX3_needPlace := goodIn_ca (goodIn_r _ [29, 7, 8, 30, 16, 17, 18, 19, 20, 42, 43] (by decide +kernel) (by decide +kernel)) (goodIn_sub (fun _ h => List.mem_cons_of_mem _ (List.mem_append_right _ h)) (by decide +kernel))
set_option maxRecDepth 20000 in
theorem gX3_list_X3_needPlace : GoodIn wsX3_list (va_wsS RX3 74 yX3_needPlace wsX3_needPlace) := goodIn_app (goodIn_of _ (by decide +kernel)) ggX3_list_X3_needPlace
set_option maxRecDepth 20000 in
theorem ggX3_list_X1_at : GoodIn wsX3_list wsX1_at := goodIn_r _ [34, 20, 35, 42, 43] (by decide +kernel) (by decide +kernel)
set_option maxRecDepth 20000 in
theorem gX3_list_X1_at : GoodIn wsX3_list (wsV RX3 82 RX1 yX1_at wsX1_at) := goodIn_app (goodIn_of _ (by decide +kernel)) ggX3_list_X1_at
theorem dX3_list_0 : decode cX3_list 0 = .ok (.aload_n 0, 1) := by decide +kernel
theorem dX3_list_1 : decode cX3_list 1 = .ok (.iload_n 1, 1) := by decide +kernel
theorem dX3_list_2 : decode cX3_list 2 = .ok (.invokevirtual 45, 3) := by decide +kernel
theorem dX3_list_5 : decode cX3_list 5 = .ok (.aload_n 0, 1) := by decide +kernel
theorem dX3_list_6 : decode cX3_list 6 = .ok (.getfield 10, 3) := by decide +kernel
theorem dX3_list_9 : decode cX3_list 9 = .ok (.iload_n 1, 1) := by decide +kernel
theorem dX3_list_10 : decode cX3_list 10 = .ok (.invokevirtual 52, 3) := by decide +kernel
theorem dX3_list_13 : decode cX3_list 13 = .ok (.astore_n 3, 1) := by decide +kernel
theorem dX3_list_14 : decode cX3_list 14 = .ok (.aload_n 3, 1) := by decide +kernel
theorem dX3_list_15 : decode cX3_list 15 = .ok (.iload_n 2, 1) := by decide +kernel
theorem dX3_list_16 : decode cX3_list 16 = .ok (.invokestatic 74, 3) := by decide +kernel
theorem dX3_list_19 : decode cX3_list 19 = .ok (.aload_n 3, 1) := by decide +kernel
theorem dX3_list_20 : decode cX3_list 20 = .ok (.iload_n 2, 1) := by decide +kernel
theorem dX3_list_21 : decode cX3_list 21 = .ok (.invokevirtual 82, 3) := by decide +kernel
theorem dX3_list_24 : decode cX3_list 24 = .ok (.ireturn, 1) := by decide +kernel
set_option maxRecDepth 20000 in
theorem ggX3_told_X3_needKeeper : GoodIn wsX3_told wsX3_needKeeper := goodIn_ca (goodIn_r _ [9, 1, 2, 3, 10, 11, 12, 13, 14, 15, 16, 17, 18, 19, 20, 21, 69, 70, 71, 72, 73, 74, 75, 76] (by decide +kernel) (by decide +kernel)) (goodIn_sub (fun _ h => List.mem_cons_of_mem _ (List.mem_append_right _ h)) (by decide +kernel))
set_option maxRecDepth 20000 in
theorem gX3_told_X3_needKeeper : GoodIn wsX3_told (wsV RX3 45 RX3 yX3_needKeeper wsX3_needKeeper) := goodIn_app (goodIn_of _ (by decide +kernel)) ggX3_told_X3_needKeeper
set_option maxRecDepth 20000 in
theorem ggX3_told_X0_hutOf : GoodIn wsX3_told wsX0_hutOf := goodIn_r _ [25, 15, 26, 27, 28, 19, 29, 21, 30, 72, 73, 74, 75, 76] (by decide +kernel) (by decide +kernel)
set_option maxRecDepth 20000 in
theorem gX3_told_X0_hutOf : GoodIn wsX3_told (wsV RX3 85 RX0 yX0_hutOf wsX0_hutOf) := goodIn_app (goodIn_of _ (by decide +kernel)) ggX3_told_X0_hutOf
set_option maxRecDepth 20000 in
theorem ggX3_told_X0_likesOf : GoodIn wsX3_told wsX0_likesOf := goodIn_r _ [34, 35, 36, 72, 73, 74] (by decide +kernel) (by decide +kernel)
set_option maxRecDepth 20000 in
theorem gX3_told_X0_likesOf : GoodIn wsX3_told (wsV RX3 52 RX0 yX0_likesOf wsX0_likesOf) := goodIn_app (goodIn_of _ (by decide +kernel)) ggX3_told_X0_likesOf
set_option maxRecDepth 20000 in
theorem ggX3_told_X1_size : GoodIn wsX3_told wsX1_size := goodIn_r _ [20, 21, 75, 76] (by decide +kernel) (by decide +kernel)
set_option maxRecDepth 20000 in
theorem gX3_told_X1_size : GoodIn wsX3_told (wsV RX3 56 RX1 yX1_size wsX1_size) := goodIn_app (goodIn_of _ (by decide +kernel)) ggX3_told_X1_size
set_option maxRecDepth 20000 in
theorem ggX3_told_X2_hutFor : GoodIn wsX3_told wsX2_hutFor := goodIn_r _ [42, 43, 44, 27, 28, 19, 29, 21, 30, 77, 78, 79, 80, 81, 82, 83, 84, 85, 75, 76] (by decide +kernel) (by decide +kernel)
set_option maxRecDepth 20000 in
theorem gX3_told_X2_hutFor : GoodIn wsX3_told (wsV RX3 88 RX2 yX2_hutFor wsX2_hutFor) := goodIn_app (goodIn_of _ (by decide +kernel)) ggX3_told_X2_hutFor
set_option maxRecDepth 20000 in
theorem ggX3_told_X2_roundOf : GoodIn wsX3_told wsX2_roundOf := goodIn_r _ [48, 49, 44, 27, 28, 19, 29, 21, 30, 77, 78, 79, 80, 81, 82, 83, 84, 85, 75, 76] (by decide +kernel) (by decide +kernel)
set_option maxRecDepth 20000 in
theorem gX3_told_X2_roundOf : GoodIn wsX3_told (wsV RX3 91 RX2 yX2_roundOf wsX2_roundOf) := goodIn_app (goodIn_of _ (by decide +kernel)) ggX3_told_X2_roundOf
set_option maxRecDepth 20000 in
theorem ggX3_told_X2_ringSizeOf : GoodIn wsX3_told wsX2_ringSizeOf := goodIn_r _ [53, 54, 44, 27, 28, 19, 29, 21, 30, 77, 78, 79, 80, 81, 82, 83, 84, 85, 75, 76] (by decide +kernel) (by decide +kernel)
set_option maxRecDepth 20000 in
theorem gX3_told_X2_ringSizeOf : GoodIn wsX3_told (wsV RX3 94 RX2 yX2_ringSizeOf wsX2_ringSizeOf) := goodIn_app (goodIn_of _ (by decide +kernel)) ggX3_told_X2_ringSizeOf
set_option maxRecDepth 20000 in
theorem ggX3_told_X3_rankOfGot : GoodIn wsX3_told wsX3_rankOfGot := goodIn_r _ [58, 3, 4, 38, 39, 40, 41, 42, 43, 44, 27, 28, 19, 29, 21, 30, 59, 60, 61, 13, 62, 63, 32, 33, 34, 35, 36, 64, 23, 24, 25, 15, 26, 16, 17, 18, 20, 65, 66, 67, 68, 69, 70, 71, 77, 78, 79, 80, 81, 82, 83, 84, 85, 75, 76, 72, 73, 74] (by decide +kernel) (by decide +kernel)
set_option maxRecDepth 20000 in
theorem gX3_told_X3_rankOfGot : GoodIn wsX3_told (wsV RX3 97 RX3 yX3_rankOfGot wsX3_rankOfGot) := goodIn_app (goodIn_of _ (by decide +kernel)) ggX3_told_X3_rankOfGot
theorem dX3_told_0 : decode cX3_told 0 = .ok (.aload_n 0, 1) := by decide +kernel
theorem dX3_told_1 : decode cX3_told 1 = .ok (.iload_n 1, 1) := by decide +kernel
theorem dX3_told_2 : decode cX3_told 2 = .ok (.invokevirtual 45, 3) := by decide +kernel
theorem dX3_told_5 : decode cX3_told 5 = .ok (.iload_n 2, 1) := by decide +kernel
theorem dX3_told_6 : decode cX3_told 6 = .ok (.tableswitch 92 0 5 #[38, 47, 59, 68, 77, 86], 38) := by decide +kernel
theorem dX3_told_44 : decode cX3_told 44 = .ok (.aload_n 0, 1) := by decide +kernel
theorem dX3_told_45 : decode cX3_told 45 = .ok (.getfield 10, 3) := by decide +kernel
theorem dX3_told_48 : decode cX3_told 48 = .ok (.iload_n 1, 1) := by decide +kernel
theorem dX3_told_49 : decode cX3_told 49 = .ok (.invokevirtual 85, 3) := by decide +kernel
theorem dX3_told_52 : decode cX3_told 52 = .ok (.ireturn, 1) := by decide +kernel
theorem dX3_told_53 : decode cX3_told 53 = .ok (.aload_n 0, 1) := by decide +kernel
theorem dX3_told_54 : decode cX3_told 54 = .ok (.getfield 10, 3) := by decide +kernel
theorem dX3_told_57 : decode cX3_told 57 = .ok (.iload_n 1, 1) := by decide +kernel
theorem dX3_told_58 : decode cX3_told 58 = .ok (.invokevirtual 52, 3) := by decide +kernel
theorem dX3_told_61 : decode cX3_told 61 = .ok (.invokevirtual 56, 3) := by decide +kernel
theorem dX3_told_64 : decode cX3_told 64 = .ok (.ireturn, 1) := by decide +kernel
theorem dX3_told_65 : decode cX3_told 65 = .ok (.aload_n 0, 1) := by decide +kernel
theorem dX3_told_66 : decode cX3_told 66 = .ok (.getfield 21, 3) := by decide +kernel
theorem dX3_told_69 : decode cX3_told 69 = .ok (.iload_n 1, 1) := by decide +kernel
theorem dX3_told_70 : decode cX3_told 70 = .ok (.invokevirtual 88, 3) := by decide +kernel
theorem dX3_told_73 : decode cX3_told 73 = .ok (.ireturn, 1) := by decide +kernel
theorem dX3_told_74 : decode cX3_told 74 = .ok (.aload_n 0, 1) := by decide +kernel
theorem dX3_told_75 : decode cX3_told 75 = .ok (.getfield 21, 3) := by decide +kernel
theorem dX3_told_78 : decode cX3_told 78 = .ok (.iload_n 1, 1) := by decide +kernel
theorem dX3_told_79 : decode cX3_told 79 = .ok (.invokevirtual 91, 3) := by decide +kernel
theorem dX3_told_82 : decode cX3_told 82 = .ok (.ireturn, 1) := by decide +kernel
theorem dX3_told_83 : decode cX3_told 83 = .ok (.aload_n 0, 1) := by decide +kernel
theorem dX3_told_84 : decode cX3_told 84 = .ok (.getfield 21, 3) := by decide +kernel
theorem dX3_told_87 : decode cX3_told 87 = .ok (.iload_n 1, 1) := by decide +kernel
theorem dX3_told_88 : decode cX3_told 88 = .ok (.invokevirtual 94, 3) := by decide +kernel
theorem dX3_told_91 : decode cX3_told 91 = .ok (.ireturn, 1) := by decide +kernel
theorem dX3_told_92 : decode cX3_told 92 = .ok (.aload_n 0, 1) := by decide +kernel
theorem dX3_told_93 : decode cX3_told 93 = .ok (.iload_n 1, 1) := by decide +kernel
theorem dX3_told_94 : decode cX3_told 94 = .ok (.invokevirtual 97, 3) := by decide +kernel
theorem dX3_told_97 : decode cX3_told 97 = .ok (.ireturn, 1) := by decide +kernel
theorem dX3_told_98 : decode cX3_told 98 = .ok (.new 59, 3) := by decide +kernel
theorem dX3_told_101 : decode cX3_told 101 = .ok (.dup, 1) := by decide +kernel
theorem dX3_told_102 : decode cX3_told 102 = .ok (.ldc 100, 2) := by decide +kernel
theorem dX3_told_104 : decode cX3_told 104 = .ok (.invokespecial 63, 3) := by decide +kernel
theorem dX3_told_107 : decode cX3_told 107 = .ok (.athrow, 1) := by decide +kernel
set_option maxRecDepth 20000 in
theorem ggX3_points_X3_needKeeper : GoodIn wsX3_points wsX3_needKeeper := goodIn_ca (goodIn_r _ [8, 9, 10, 11, 12, 13, 14, 15, 16, 17, 18, 19, 20, 21, 22, 23, 58, 59, 60, 61, 62, 63, 64, 65] (by decide +kernel) (by decide +kernel)) (goodIn_sub (fun _ h => List.mem_cons_of_mem _ (List.mem_append_right _ h)) (by decide +kernel))
set_option maxRecDepth 20000 in
theorem gX3_points_X3_needKeeper : GoodIn wsX3_points (wsV RX3 45 RX3 yX3_needKeeper wsX3_needKeeper) := goodIn_app (goodIn_of _ (by decide +kernel)) ggX3_points_X3_needKeeper
set_option maxRecDepth 20000 in
theorem ggX3_points_X2_isThereIn : GoodIn wsX3_points wsX2_isThereIn := goodIn_r _ [28, 29, 30, 31, 32, 21, 33, 23, 34, 66, 67, 68, 69, 70, 71, 72, 73, 74, 64, 65] (by decide +kernel) (by decide +kernel)
set_option maxRecDepth 20000 in
theorem gX3_points_X2_isThereIn : GoodIn wsX3_points (wsV RX3 107 RX2 yX2_isThereIn wsX2_isThereIn) := goodIn_app (goodIn_of _ (by decide +kernel)) ggX3_points_X2_isThereIn
set_option maxRecDepth 20000 in
theorem ggX3_points_X2_aimIn : GoodIn wsX3_points wsX2_aimIn := goodIn_r _ [38, 39, 40, 41, 42, 43, 44, 15, 45, 46, 47, 48, 19, 20, 21, 22, 23, 30, 31, 32, 33, 34, 49, 50, 51, 52, 17, 53, 54, 55, 56, 57, 25, 26, 27, 28, 29, 66, 67, 68, 69, 70, 71, 72, 73, 74, 61, 62, 63, 64, 65] (by decide +kernel) (by decide +kernel)
set_option maxRecDepth 20000 in
theorem gX3_points_X2_aimIn : GoodIn wsX3_points (wsV RX3 111 RX2 yX2_aimIn wsX2_aimIn) := goodIn_app (goodIn_of _ (by decide +kernel)) ggX3_points_X2_aimIn
theorem dX3_points_0 : decode cX3_points 0 = .ok (.aload_n 0, 1) := by decide +kernel
theorem dX3_points_1 : decode cX3_points 1 = .ok (.iload_n 1, 1) := by decide +kernel
theorem dX3_points_2 : decode cX3_points 2 = .ok (.invokevirtual 45, 3) := by decide +kernel
theorem dX3_points_5 : decode cX3_points 5 = .ok (.iload_n 2, 1) := by decide +kernel
theorem dX3_points_6 : decode cX3_points 6 = .ok (.iconst 1, 1) := by decide +kernel
theorem dX3_points_7 : decode cX3_points 7 = .ok (.if_icmp .ge 13, 3) := by decide +kernel
theorem dX3_points_10 : decode cX3_points 10 = .ok (.new 102, 3) := by decide +kernel
theorem dX3_points_13 : decode cX3_points 13 = .ok (.dup, 1) := by decide +kernel
theorem dX3_points_14 : decode cX3_points 14 = .ok (.ldc 104, 2) := by decide +kernel
theorem dX3_points_16 : decode cX3_points 16 = .ok (.invokespecial 106, 3) := by decide +kernel
theorem dX3_points_19 : decode cX3_points 19 = .ok (.athrow, 1) := by decide +kernel
theorem dX3_points_20 : decode cX3_points 20 = .ok (.aload_n 0, 1) := by decide +kernel
theorem dX3_points_21 : decode cX3_points 21 = .ok (.getfield 21, 3) := by decide +kernel
theorem dX3_points_24 : decode cX3_points 24 = .ok (.iload_n 1, 1) := by decide +kernel
theorem dX3_points_25 : decode cX3_points 25 = .ok (.iload_n 2, 1) := by decide +kernel
theorem dX3_points_26 : decode cX3_points 26 = .ok (.invokevirtual 107, 3) := by decide +kernel
theorem dX3_points_29 : decode cX3_points 29 = .ok (.ifCond .eq 15, 3) := by decide +kernel
theorem dX3_points_32 : decode cX3_points 32 = .ok (.aload_n 0, 1) := by decide +kernel
theorem dX3_points_33 : decode cX3_points 33 = .ok (.getfield 21, 3) := by decide +kernel
theorem dX3_points_36 : decode cX3_points 36 = .ok (.iload_n 1, 1) := by decide +kernel
theorem dX3_points_37 : decode cX3_points 37 = .ok (.iload_n 2, 1) := by decide +kernel
theorem dX3_points_38 : decode cX3_points 38 = .ok (.invokevirtual 111, 3) := by decide +kernel
theorem dX3_points_41 : decode cX3_points 41 = .ok (.goto 4, 3) := by decide +kernel
theorem dX3_points_44 : decode cX3_points 44 = .ok (.iconst (-1), 1) := by decide +kernel
theorem dX3_points_45 : decode cX3_points 45 = .ok (.ireturn, 1) := by decide +kernel
set_option maxRecDepth 20000 in
theorem ggX3_rank_X3_needKeeper : GoodIn wsX3_rank wsX3_needKeeper := goodIn_ca (goodIn_r _ [6, 7, 8, 1, 9, 10, 11, 12, 13, 14, 15, 16, 17, 18, 19, 20, 48, 49, 50, 51, 52, 53, 54, 55] (by decide +kernel) (by decide +kernel)) (goodIn_sub (fun _ h => List.mem_cons_of_mem _ (List.mem_append_right _ h)) (by decide +kernel))
set_option maxRecDepth 20000 in
theorem gX3_rank_X3_needKeeper : GoodIn wsX3_rank (wsV RX3 45 RX3 yX3_needKeeper wsX3_needKeeper) := goodIn_app (goodIn_of _ (by decide +kernel)) ggX3_rank_X3_needKeeper
set_option maxRecDepth 20000 in
theorem ggX3_rank_X3_needHut : GoodIn wsX3_rank wsX3_needHut := goodIn_ca (goodIn_r _ [24, 7, 8, 1, 9, 10, 11, 12, 13, 14, 15, 16, 17, 18, 19, 20, 48, 49, 50, 51, 52, 53, 54, 55] (by decide +kernel) (by decide +kernel)) (goodIn_sub (fun _ h => List.mem_cons_of_mem _ (List.mem_append_right _ h)) (by decide +kernel))
set_option maxRecDepth 20000 in
theorem gX3_rank_X3_needHut : GoodIn wsX3_rank (wsV RX3 49 RX3 yX3_needHut wsX3_needHut) := goodIn_app (goodIn_of _ (by decide +kernel)) ggX3_rank_X3_needHut
set_option maxRecDepth 20000 in
theorem ggX3_rank_X0_rankOf : GoodIn wsX3_rank wsX0_rankOf := goodIn_r _ [28, 29, 30, 31, 12, 32, 33, 34, 35, 36, 37, 38, 14, 39, 40, 41, 18, 42, 20, 43, 15, 16, 17, 19, 44, 45, 46, 47, 51, 52, 53, 54, 55] (by decide +kernel) (by decide +kernel)
set_option maxRecDepth 20000 in
theorem gX3_rank_X0_rankOf : GoodIn wsX3_rank (wsV RX3 64 RX0 yX0_rankOf wsX0_rankOf) := goodIn_app (goodIn_of _ (by decide +kernel)) ggX3_rank_X0_rankOf
theorem dX3_rank_0 : decode cX3_rank 0 = .ok (.aload_n 0, 1) := by decide +kernel
theorem dX3_rank_1 : decode cX3_rank 1 = .ok (.iload_n 1, 1) := by decide +kernel
theorem dX3_rank_2 : decode cX3_rank 2 = .ok (.invokevirtual 45, 3) := by decide +kernel
theorem dX3_rank_5 : decode cX3_rank 5 = .ok (.aload_n 0, 1) := by decide +kernel
theorem dX3_rank_6 : decode cX3_rank 6 = .ok (.iload_n 2, 1) := by decide +kernel
theorem dX3_rank_7 : decode cX3_rank 7 = .ok (.invokevirtual 49, 3) := by decide +kernel
theorem dX3_rank_10 : decode cX3_rank 10 = .ok (.aload_n 0, 1) := by decide +kernel
theorem dX3_rank_11 : decode cX3_rank 11 = .ok (.getfield 10, 3) := by decide +kernel
theorem dX3_rank_14 : decode cX3_rank 14 = .ok (.iload_n 1, 1) := by decide +kernel
theorem dX3_rank_15 : decode cX3_rank 15 = .ok (.iload_n 2, 1) := by decide +kernel
theorem dX3_rank_16 : decode cX3_rank 16 = .ok (.invokevirtual 64, 3) := by decide +kernel
theorem dX3_rank_19 : decode cX3_rank 19 = .ok (.ireturn, 1) := by decide +kernel
set_option maxRecDepth 20000 in
theorem ggX3_count_X0_size : GoodIn wsX3_count wsX0_size := goodIn_r _ [9, 10, 11, 12, 13, 14, 15, 16, 88, 89, 90, 91, 92] (by decide +kernel) (by decide +kernel)
set_option maxRecDepth 20000 in
theorem gX3_count_X0_size : GoodIn wsX3_count (wsV RX3 28 RX0 yX0_size wsX0_size) := goodIn_app (goodIn_of _ (by decide +kernel)) ggX3_count_X0_size
set_option maxRecDepth 20000 in
theorem ggX3_count_X2_rounds : GoodIn wsX3_count wsX2_rounds := goodIn_r _ [21, 22, 93, 94, 95, 96, 97, 98, 99, 100, 101] (by decide +kernel) (by decide +kernel)
set_option maxRecDepth 20000 in
theorem gX3_count_X2_rounds : GoodIn wsX3_count (wsV RX3 114 RX2 yX2_rounds wsX2_rounds) := goodIn_app (goodIn_of _ (by decide +kernel)) ggX3_count_X2_rounds
set_option maxRecDepth 20000 in
theorem ggX3_count_X2_ringsOfMore : GoodIn wsX3_count wsX2_ringsOfMore := goodIn_r _ [26, 27, 93, 94, 95, 96, 97, 98, 99, 100, 101] (by decide +kernel) (by decide +kernel)
set_option maxRecDepth 20000 in
theorem gX3_count_X2_ringsOfMore : GoodIn wsX3_count (wsV RX3 117 RX2 yX2_ringsOfMore wsX2_ringsOfMore) := goodIn_app (goodIn_of _ (by decide +kernel)) ggX3_count_X2_ringsOfMore
set_option maxRecDepth 20000 in
theorem ggX3_count_X3_keepersWithAnotherHut : GoodIn wsX3_count wsX3_keepersWithAnotherHut := goodIn_r _ [32, 3, 4, 5, 6, 7, 8, 9, 10, 11, 12, 13, 14, 15, 16, 33, 34, 35, 20, 36, 37, 38, 39, 40, 41, 42, 43, 44, 45, 46, 47, 85, 86, 87, 88, 89, 90, 91, 92, 93, 94, 95, 96, 97, 98, 99, 100, 101] (by decide +kernel) (by decide +kernel)
set_option maxRecDepth 20000 in
theorem gX3_count_X3_keepersWithAnotherHut : GoodIn wsX3_count (wsV RX3 120 RX3 yX3_keepersWithAnotherHut wsX3_keepersWithAnotherHut) := goodIn_app (goodIn_of _ (by decide +kernel)) ggX3_count_X3_keepersWithAnotherHut
set_option maxRecDepth 20000 in
theorem ggX3_count_X3_ranksAdded : GoodIn wsX3_count wsX3_ranksAdded := goodIn_r _ [51, 3, 5, 6, 7, 8, 9, 10, 11, 12, 13, 14, 15, 16, 52, 53, 54, 31, 55, 4, 33, 34, 35, 20, 36, 37, 38, 39, 40, 41, 42, 56, 57, 58, 59, 60, 61, 62, 63, 64, 65, 66, 44, 45, 46, 47, 67, 68, 69, 70, 85, 86, 87, 88, 89, 90, 91, 92, 93, 94, 95, 96, 97, 98, 99, 100, 101] (by decide +kernel) (by decide +kernel)
set_option maxRecDepth 20000 in
theorem gX3_count_X3_ranksAdded : GoodIn wsX3_count (wsV RX3 123 RX3 yX3_ranksAdded wsX3_ranksAdded) := goodIn_app (goodIn_of _ (by decide +kernel)) ggX3_count_X3_ranksAdded
set_option maxRecDepth 20000 in
theorem ggX3_count_X2_greatestRing : GoodIn wsX3_count wsX2_greatestRing := goodIn_r _ [74, 75, 76, 77, 78, 14, 79, 16, 80, 81, 82, 83, 84, 39, 40, 41, 42, 93, 94, 95, 96, 97, 98, 99, 100, 101, 91, 92] (by decide +kernel) (by decide +kernel)
set_option maxRecDepth 20000 in
theorem gX3_count_X2_greatestRing : GoodIn wsX3_count (wsV RX3 126 RX2 yX2_greatestRing wsX2_greatestRing) := goodIn_app (goodIn_of _ (by decide +kernel)) ggX3_count_X2_greatestRing
theorem dX3_count_0 : decode cX3_count 0 = .ok (.iload_n 1, 1) := by decide +kernel
theorem dX3_count_1 : decode cX3_count 1 = .ok (.tableswitch 81 0 5 #[39, 47, 55, 63, 68, 73], 39) := by decide +kernel
theorem dX3_count_40 : decode cX3_count 40 = .ok (.aload_n 0, 1) := by decide +kernel
theorem dX3_count_41 : decode cX3_count 41 = .ok (.getfield 10, 3) := by decide +kernel
theorem dX3_count_44 : decode cX3_count 44 = .ok (.invokevirtual 28, 3) := by decide +kernel
theorem dX3_count_47 : decode cX3_count 47 = .ok (.ireturn, 1) := by decide +kernel
theorem dX3_count_48 : decode cX3_count 48 = .ok (.aload_n 0, 1) := by decide +kernel
theorem dX3_count_49 : decode cX3_count 49 = .ok (.getfield 21, 3) := by decide +kernel
theorem dX3_count_52 : decode cX3_count 52 = .ok (.invokevirtual 114, 3) := by decide +kernel
theorem dX3_count_55 : decode cX3_count 55 = .ok (.ireturn, 1) := by decide +kernel
theorem dX3_count_56 : decode cX3_count 56 = .ok (.aload_n 0, 1) := by decide +kernel
theorem dX3_count_57 : decode cX3_count 57 = .ok (.getfield 21, 3) := by decide +kernel
theorem dX3_count_60 : decode cX3_count 60 = .ok (.invokevirtual 117, 3) := by decide +kernel
theorem dX3_count_63 : decode cX3_count 63 = .ok (.ireturn, 1) := by decide +kernel
theorem dX3_count_64 : decode cX3_count 64 = .ok (.aload_n 0, 1) := by decide +kernel
theorem dX3_count_65 : decode cX3_count 65 = .ok (.invokevirtual 120, 3) := by decide +kernel
theorem dX3_count_68 : decode cX3_count 68 = .ok (.ireturn, 1) := by decide +kernel
theorem dX3_count_69 : decode cX3_count 69 = .ok (.aload_n 0, 1) := by decide +kernel
theorem dX3_count_70 : decode cX3_count 70 = .ok (.invokevirtual 123, 3) := by decide +kernel
theorem dX3_count_73 : decode cX3_count 73 = .ok (.ireturn, 1) := by decide +kernel
theorem dX3_count_74 : decode cX3_count 74 = .ok (.aload_n 0, 1) := by decide +kernel
theorem dX3_count_75 : decode cX3_count 75 = .ok (.getfield 21, 3) := by decide +kernel
theorem dX3_count_78 : decode cX3_count 78 = .ok (.invokevirtual 126, 3) := by decide +kernel
theorem dX3_count_81 : decode cX3_count 81 = .ok (.ireturn, 1) := by decide +kernel
theorem dX3_count_82 : decode cX3_count 82 = .ok (.new 59, 3) := by decide +kernel
theorem dX3_count_85 : decode cX3_count 85 = .ok (.dup, 1) := by decide +kernel
theorem dX3_count_86 : decode cX3_count 86 = .ok (.ldc 100, 2) := by decide +kernel
theorem dX3_count_88 : decode cX3_count 88 = .ok (.invokespecial 63, 3) := by decide +kernel
theorem dX3_count_91 : decode cX3_count 91 = .ok (.athrow, 1) := by decide +kernel
set_option maxRecDepth 20000 in
theorem ggX3_move_X3_keepersWithAnotherHut : GoodIn wsX3_move wsX3_keepersWithAnotherHut := goodIn_r _ [7, 1, 2, 8, 9, 10, 11, 12, 13, 14, 15, 16, 17, 18, 19, 20, 21, 22, 23, 24, 25, 26, 27, 28, 29, 30, 31, 32, 33, 34, 35, 121, 122, 123, 124, 125, 126, 127, 128, 129, 130, 131, 132, 133, 134, 135, 136, 137] (by decide +kernel) (by decide +kernel)
set_option maxRecDepth 20000 in
theorem gX3_move_X3_keepersWithAnotherHut : GoodIn wsX3_move (wsV RX3 120 RX3 yX3_keepersWithAnotherHut wsX3_keepersWithAnotherHut) := goodIn_app (goodIn_of _ (by decide +kernel)) ggX3_move_X3_keepersWithAnotherHut
set_option maxRecDepth 20000 in
theorem ggX3_move_X0_size : GoodIn wsX3_move wsX0_size := goodIn_r _ [12, 13, 14, 15, 16, 17, 18, 19, 124, 125, 126, 127, 128] (by decide +kernel) (by decide +kernel)
set_option maxRecDepth 20000 in
theorem gX3_move_X0_size : GoodIn wsX3_move (wsV RX3 28 RX0 yX0_size wsX0_size) := goodIn_app (goodIn_of _ (by decide +kernel)) ggX3_move_X0_size
set_option maxRecDepth 20000 in
theorem ggX3_move_X2_hutFor : GoodIn wsX3_move wsX2_hutFor := goodIn_r _ [24, 25, 26, 27, 28, 17, 29, 19, 30, 129, 130, 131, 132, 133, 134, 135, 136, 137, 127, 128] (by decide +kernel) (by decide +kernel)
set_option maxRecDepth 20000 in
theorem gX3_move_X2_hutFor : GoodIn wsX3_move (wsV RX3 88 RX2 yX2_hutFor wsX2_hutFor) := goodIn_app (goodIn_of _ (by decide +kernel)) ggX3_move_X2_hutFor
set_option maxRecDepth 20000 in
theorem ggX3_move_X0_moveInto : GoodIn wsX3_move wsX0_moveInto := goodIn_r _ [39, 13, 40, 41, 42, 11, 43, 44, 45, 46, 47, 48, 17, 49, 19, 30, 50, 51, 52, 53, 54, 55, 56, 57, 58, 59, 60, 61, 124, 125, 126, 127, 128] (by decide +kernel) (by decide +kernel)
set_option maxRecDepth 20000 in
theorem gX3_move_X0_moveInto : GoodIn wsX3_move (wsV RX3 140 RX0 yX0_moveInto wsX0_moveInto) := goodIn_app (goodIn_of _ (by decide +kernel)) ggX3_move_X0_moveInto
set_option maxRecDepth 20000 in
theorem ggX3_move_X2_runForAll : GoodIn wsX3_move wsX2_runForAll := goodIn_r _ [65, 66, 67, 68, 23, 69, 70, 25, 71, 72, 73, 74, 75, 76, 77, 78, 9, 10, 11, 12, 13, 14, 15, 16, 17, 18, 19, 79, 80, 81, 82, 30, 83, 59, 60, 61, 54, 55, 56, 57, 84, 85, 86, 87, 88, 47, 48, 49, 89, 90, 91, 92, 93, 94, 95, 96, 97, 26, 27, 28, 29, 98, 99, 100, 101, 102, 41, 42, 43, 44, 45, 103, 104, 105, 106, 46, 107, 108, 109, 110, 111, 112, 113, 114, 115, 116, 117, 118, 119, 120, 32, 33, 34, 35, 129, 130, 131, 132, 133, 134, 135, 136, 137, 124, 125, 126, 127, 128] (by decide +kernel) (by decide +kernel)
set_option maxRecDepth 20000 in
theorem gX3_move_X2_runForAll : GoodIn wsX3_move (wsV RX3 42 RX2 yX2_runForAll wsX2_runForAll) := goodIn_app (goodIn_of _ (by decide +kernel)) ggX3_move_X2_runForAll
theorem dX3_move_0 : decode cX3_move 0 = .ok (.aload_n 0, 1) := by decide +kernel
theorem dX3_move_1 : decode cX3_move 1 = .ok (.invokevirtual 120, 3) := by decide +kernel
theorem dX3_move_4 : decode cX3_move 4 = .ok (.istore_n 1, 1) := by decide +kernel
theorem dX3_move_5 : decode cX3_move 5 = .ok (.iconst 0, 1) := by decide +kernel
theorem dX3_move_6 : decode cX3_move 6 = .ok (.istore_n 2, 1) := by decide +kernel
theorem dX3_move_7 : decode cX3_move 7 = .ok (.iload_n 2, 1) := by decide +kernel
theorem dX3_move_8 : decode cX3_move 8 = .ok (.aload_n 0, 1) := by decide +kernel
theorem dX3_move_9 : decode cX3_move 9 = .ok (.getfield 10, 3) := by decide +kernel
theorem dX3_move_12 : decode cX3_move 12 = .ok (.invokevirtual 28, 3) := by decide +kernel
theorem dX3_move_15 : decode cX3_move 15 = .ok (.if_icmp .ge 25, 3) := by decide +kernel
theorem dX3_move_18 : decode cX3_move 18 = .ok (.aload_n 0, 1) := by decide +kernel
theorem dX3_move_19 : decode cX3_move 19 = .ok (.getfield 10, 3) := by decide +kernel
theorem dX3_move_22 : decode cX3_move 22 = .ok (.iload_n 2, 1) := by decide +kernel
theorem dX3_move_23 : decode cX3_move 23 = .ok (.aload_n 0, 1) := by decide +kernel
theorem dX3_move_24 : decode cX3_move 24 = .ok (.getfield 21, 3) := by decide +kernel
theorem dX3_move_27 : decode cX3_move 27 = .ok (.iload_n 2, 1) := by decide +kernel
theorem dX3_move_28 : decode cX3_move 28 = .ok (.invokevirtual 88, 3) := by decide +kernel
theorem dX3_move_31 : decode cX3_move 31 = .ok (.invokevirtual 140, 3) := by decide +kernel
theorem dX3_move_34 : decode cX3_move 34 = .ok (.iinc 2 1, 3) := by decide +kernel
theorem dX3_move_37 : decode cX3_move 37 = .ok (.goto (-30), 3) := by decide +kernel
theorem dX3_move_40 : decode cX3_move 40 = .ok (.aload_n 0, 1) := by decide +kernel
theorem dX3_move_41 : decode cX3_move 41 = .ok (.getfield 21, 3) := by decide +kernel
theorem dX3_move_44 : decode cX3_move 44 = .ok (.invokevirtual 42, 3) := by decide +kernel
theorem dX3_move_47 : decode cX3_move 47 = .ok (.iload_n 1, 1) := by decide +kernel
theorem dX3_move_48 : decode cX3_move 48 = .ok (.ireturn, 1) := by decide +kernel
set_option maxRecDepth 20000 in
theorem ggX3_mean_X0_size : GoodIn wsX3_mean wsX0_size := goodIn_r _ [7, 8, 9, 10, 11, 12, 13, 14, 33, 34, 35, 36, 37] (by decide +kernel) (by decide +kernel)
set_option maxRecDepth 20000 in
theorem gX3_mean_X0_size : GoodIn wsX3_mean (wsV RX3 28 RX0 yX0_size wsX0_size) := goodIn_app (goodIn_of _ (by decide +kernel)) ggX3_mean_X0_size
set_option maxRecDepth 20000 in
theorem ggX3_mean_X2_roundsAdded : GoodIn wsX3_mean wsX2_roundsAdded := goodIn_r _ [19, 20, 21, 22, 23, 12, 24, 14, 25, 26, 27, 28, 29, 38, 39, 40, 41, 42, 43, 44, 45, 46, 36, 37] (by decide +kernel) (by decide +kernel)
set_option maxRecDepth 20000 in
theorem gX3_mean_X2_roundsAdded : GoodIn wsX3_mean (wsV RX3 143 RX2 yX2_roundsAdded wsX2_roundsAdded) := goodIn_app (goodIn_of _ (by decide +kernel)) ggX3_mean_X2_roundsAdded
theorem dX3_mean_0 : decode cX3_mean 0 = .ok (.aload_n 0, 1) := by decide +kernel
theorem dX3_mean_1 : decode cX3_mean 1 = .ok (.getfield 10, 3) := by decide +kernel
theorem dX3_mean_4 : decode cX3_mean 4 = .ok (.invokevirtual 28, 3) := by decide +kernel
theorem dX3_mean_7 : decode cX3_mean 7 = .ok (.istore_n 1, 1) := by decide +kernel
theorem dX3_mean_8 : decode cX3_mean 8 = .ok (.iload_n 1, 1) := by decide +kernel
theorem dX3_mean_9 : decode cX3_mean 9 = .ok (.ifCond .ne 7, 3) := by decide +kernel
theorem dX3_mean_12 : decode cX3_mean 12 = .ok (.dconst 0, 1) := by decide +kernel
theorem dX3_mean_13 : decode cX3_mean 13 = .ok (.goto 14, 3) := by decide +kernel
theorem dX3_mean_16 : decode cX3_mean 16 = .ok (.aload_n 0, 1) := by decide +kernel
theorem dX3_mean_17 : decode cX3_mean 17 = .ok (.getfield 21, 3) := by decide +kernel
theorem dX3_mean_20 : decode cX3_mean 20 = .ok (.invokevirtual 143, 3) := by decide +kernel
theorem dX3_mean_23 : decode cX3_mean 23 = .ok (.i2d, 1) := by decide +kernel
theorem dX3_mean_24 : decode cX3_mean 24 = .ok (.iload_n 1, 1) := by decide +kernel
theorem dX3_mean_25 : decode cX3_mean 25 = .ok (.i2d, 1) := by decide +kernel
theorem dX3_mean_26 : decode cX3_mean 26 = .ok (.ddiv, 1) := by decide +kernel
theorem dX3_mean_27 : decode cX3_mean 27 = .ok (.dreturn, 1) := by decide +kernel
set_option maxRecDepth 20000 in
theorem ggX3_rankOfGot_X2_hutFor : GoodIn wsX3_rankOfGot wsX2_hutFor := goodIn_r _ [7, 8, 9, 10, 11, 12, 13, 14, 15, 44, 45, 46, 47, 48, 49, 50, 51, 52, 53, 54] (by decide +kernel) (by decide +kernel)
set_option maxRecDepth 20000 in
theorem gX3_rankOfGot_X2_hutFor : GoodIn wsX3_rankOfGot (wsV RX3 88 RX2 yX2_hutFor wsX2_hutFor) := goodIn_app (goodIn_of _ (by decide +kernel)) ggX3_rankOfGot_X2_hutFor
set_option maxRecDepth 20000 in
theorem ggX3_rankOfGot_X0_rankOf : GoodIn wsX3_rankOfGot wsX0_rankOf := goodIn_r _ [20, 21, 22, 23, 19, 24, 25, 26, 27, 28, 29, 30, 31, 32, 10, 11, 12, 13, 14, 15, 33, 34, 35, 36, 37, 38, 39, 40, 55, 56, 57, 53, 54] (by decide +kernel) (by decide +kernel)
set_option maxRecDepth 20000 in
theorem gX3_rankOfGot_X0_rankOf : GoodIn wsX3_rankOfGot (wsV RX3 64 RX0 yX0_rankOf wsX0_rankOf) := goodIn_app (goodIn_of _ (by decide +kernel)) ggX3_rankOfGot_X0_rankOf
theorem dX3_rankOfGot_0 : decode cX3_rankOfGot 0 = .ok (.aload_n 0, 1) := by decide +kernel
theorem dX3_rankOfGot_1 : decode cX3_rankOfGot 1 = .ok (.getfield 10, 3) := by decide +kernel
theorem dX3_rankOfGot_4 : decode cX3_rankOfGot 4 = .ok (.iload_n 1, 1) := by decide +kernel
theorem dX3_rankOfGot_5 : decode cX3_rankOfGot 5 = .ok (.aload_n 0, 1) := by decide +kernel
theorem dX3_rankOfGot_6 : decode cX3_rankOfGot 6 = .ok (.getfield 21, 3) := by decide +kernel
theorem dX3_rankOfGot_9 : decode cX3_rankOfGot 9 = .ok (.iload_n 1, 1) := by decide +kernel
theorem dX3_rankOfGot_10 : decode cX3_rankOfGot 10 = .ok (.invokevirtual 88, 3) := by decide +kernel
theorem dX3_rankOfGot_13 : decode cX3_rankOfGot 13 = .ok (.invokevirtual 64, 3) := by decide +kernel
theorem dX3_rankOfGot_16 : decode cX3_rankOfGot 16 = .ok (.ireturn, 1) := by decide +kernel
set_option maxRecDepth 20000 in
theorem ggX3_keepersWithAnotherHut_X0_size : GoodIn wsX3_keepersWithAnotherHut wsX0_size := goodIn_r _ [7, 8, 9, 10, 11, 12, 13, 14, 34, 35, 36, 37, 38] (by decide +kernel) (by decide +kernel)
set_option maxRecDepth 20000 in
theorem gX3_keepersWithAnotherHut_X0_size : GoodIn wsX3_keepersWithAnotherHut (wsV RX3 28 RX0 yX0_size wsX0_size) := goodIn_app (goodIn_of _ (by decide +kernel)) ggX3_keepersWithAnotherHut_X0_size
set_option maxRecDepth 20000 in
theorem ggX3_keepersWithAnotherHut_X2_hutFor : GoodIn wsX3_keepersWithAnotherHut wsX2_hutFor := goodIn_r _ [19, 20, 21, 22, 23, 12, 24, 14, 25, 39, 40, 41, 42, 43, 44, 45, 46, 47, 37, 38] (by decide +kernel) (by decide +kernel)
set_option maxRecDepth 20000 in
theorem gX3_keepersWithAnotherHut_X2_hutFor : GoodIn wsX3_keepersWithAnotherHut (wsV RX3 88 RX2 yX2_hutFor wsX2_hutFor) := goodIn_app (goodIn_of _ (by decide +kernel)) ggX3_keepersWithAnotherHut_X2_hutFor
set_option maxRecDepth 20000 in
theorem ggX3_keepersWithAnotherHut_X0_hutOf : GoodIn wsX3_keepersWithAnotherHut wsX0_hutOf := goodIn_r _ [29, 8, 30, 22, 23, 12, 24, 14, 25, 34, 35, 36, 37, 38] (by decide +kernel) (by decide +kernel)
set_option maxRecDepth 20000 in
theorem gX3_keepersWithAnotherHut_X0_hutOf : GoodIn wsX3_keepersWithAnotherHut (wsV RX3 85 RX0 yX0_hutOf wsX0_hutOf) := goodIn_app (goodIn_of _ (by decide +kernel)) ggX3_keepersWithAnotherHut_X0_hutOf
theorem dX3_keepersWithAnotherHut_0 : decode cX3_keepersWithAnotherHut 0 = .ok (.iconst 0, 1) := by decide +kernel
theorem dX3_keepersWithAnotherHut_1 : decode cX3_keepersWithAnotherHut 1 = .ok (.istore_n 1, 1) := by decide +kernel
theorem dX3_keepersWithAnotherHut_2 : decode cX3_keepersWithAnotherHut 2 = .ok (.iconst 0, 1) := by decide +kernel
theorem dX3_keepersWithAnotherHut_3 : decode cX3_keepersWithAnotherHut 3 = .ok (.istore_n 2, 1) := by decide +kernel
theorem dX3_keepersWithAnotherHut_4 : decode cX3_keepersWithAnotherHut 4 = .ok (.iload_n 2, 1) := by decide +kernel
theorem dX3_keepersWithAnotherHut_5 : decode cX3_keepersWithAnotherHut 5 = .ok (.aload_n 0, 1) := by decide +kernel
theorem dX3_keepersWithAnotherHut_6 : decode cX3_keepersWithAnotherHut 6 = .ok (.getfield 10, 3) := by decide +kernel
theorem dX3_keepersWithAnotherHut_9 : decode cX3_keepersWithAnotherHut 9 = .ok (.invokevirtual 28, 3) := by decide +kernel
theorem dX3_keepersWithAnotherHut_12 : decode cX3_keepersWithAnotherHut 12 = .ok (.if_icmp .ge 31, 3) := by decide +kernel
theorem dX3_keepersWithAnotherHut_15 : decode cX3_keepersWithAnotherHut 15 = .ok (.aload_n 0, 1) := by decide +kernel
theorem dX3_keepersWithAnotherHut_16 : decode cX3_keepersWithAnotherHut 16 = .ok (.getfield 21, 3) := by decide +kernel
theorem dX3_keepersWithAnotherHut_19 : decode cX3_keepersWithAnotherHut 19 = .ok (.iload_n 2, 1) := by decide +kernel
theorem dX3_keepersWithAnotherHut_20 : decode cX3_keepersWithAnotherHut 20 = .ok (.invokevirtual 88, 3) := by decide +kernel
theorem dX3_keepersWithAnotherHut_23 : decode cX3_keepersWithAnotherHut 23 = .ok (.aload_n 0, 1) := by decide +kernel
theorem dX3_keepersWithAnotherHut_24 : decode cX3_keepersWithAnotherHut 24 = .ok (.getfield 10, 3) := by decide +kernel
theorem dX3_keepersWithAnotherHut_27 : decode cX3_keepersWithAnotherHut 27 = .ok (.iload_n 2, 1) := by decide +kernel
theorem dX3_keepersWithAnotherHut_28 : decode cX3_keepersWithAnotherHut 28 = .ok (.invokevirtual 85, 3) := by decide +kernel
theorem dX3_keepersWithAnotherHut_31 : decode cX3_keepersWithAnotherHut 31 = .ok (.if_icmp .eq 6, 3) := by decide +kernel
theorem dX3_keepersWithAnotherHut_34 : decode cX3_keepersWithAnotherHut 34 = .ok (.iinc 1 1, 3) := by decide +kernel
theorem dX3_keepersWithAnotherHut_37 : decode cX3_keepersWithAnotherHut 37 = .ok (.iinc 2 1, 3) := by decide +kernel
theorem dX3_keepersWithAnotherHut_40 : decode cX3_keepersWithAnotherHut 40 = .ok (.goto (-36), 3) := by decide +kernel
theorem dX3_keepersWithAnotherHut_43 : decode cX3_keepersWithAnotherHut 43 = .ok (.iload_n 1, 1) := by decide +kernel
theorem dX3_keepersWithAnotherHut_44 : decode cX3_keepersWithAnotherHut 44 = .ok (.ireturn, 1) := by decide +kernel
set_option maxRecDepth 20000 in
theorem ggX3_ranksAdded_X0_size : GoodIn wsX3_ranksAdded wsX0_size := goodIn_r _ [6, 7, 8, 9, 10, 11, 12, 13, 53, 54, 55, 56, 57] (by decide +kernel) (by decide +kernel)
set_option maxRecDepth 20000 in
theorem gX3_ranksAdded_X0_size : GoodIn wsX3_ranksAdded (wsV RX3 28 RX0 yX0_size wsX0_size) := goodIn_app (goodIn_of _ (by decide +kernel)) ggX3_ranksAdded_X0_size
set_option maxRecDepth 20000 in
theorem ggX3_ranksAdded_X3_rankOfGot : GoodIn wsX3_ranksAdded wsX3_rankOfGot := goodIn_r _ [18, 1, 19, 20, 21, 22, 23, 24, 25, 26, 27, 28, 11, 29, 13, 30, 31, 32, 33, 5, 34, 35, 36, 37, 38, 39, 40, 41, 42, 43, 44, 7, 45, 8, 9, 10, 12, 46, 47, 48, 49, 50, 51, 52, 58, 59, 60, 61, 62, 63, 64, 65, 66, 56, 57, 53, 54, 55] (by decide +kernel) (by decide +kernel)
set_option maxRecDepth 20000 in
theorem gX3_ranksAdded_X3_rankOfGot : GoodIn wsX3_ranksAdded (wsV RX3 97 RX3 yX3_rankOfGot wsX3_rankOfGot) := goodIn_app (goodIn_of _ (by decide +kernel)) ggX3_ranksAdded_X3_rankOfGot
theorem dX3_ranksAdded_0 : decode cX3_ranksAdded 0 = .ok (.iconst 0, 1) := by decide +kernel
theorem dX3_ranksAdded_1 : decode cX3_ranksAdded 1 = .ok (.istore_n 1, 1) := by decide +kernel
theorem dX3_ranksAdded_2 : decode cX3_ranksAdded 2 = .ok (.iconst 0, 1) := by decide +kernel
theorem dX3_ranksAdded_3 : decode cX3_ranksAdded 3 = .ok (.istore_n 2, 1) := by decide +kernel
theorem dX3_ranksAdded_4 : decode cX3_ranksAdded 4 = .ok (.iload_n 2, 1) := by decide +kernel
theorem dX3_ranksAdded_5 : decode cX3_ranksAdded 5 = .ok (.aload_n 0, 1) := by decide +kernel
theorem dX3_ranksAdded_6 : decode cX3_ranksAdded 6 = .ok (.getfield 10, 3) := by decide +kernel
theorem dX3_ranksAdded_9 : decode cX3_ranksAdded 9 = .ok (.invokevirtual 28, 3) := by decide +kernel
theorem dX3_ranksAdded_12 : decode cX3_ranksAdded 12 = .ok (.if_icmp .ge 17, 3) := by decide +kernel
theorem dX3_ranksAdded_15 : decode cX3_ranksAdded 15 = .ok (.iload_n 1, 1) := by decide +kernel
theorem dX3_ranksAdded_16 : decode cX3_ranksAdded 16 = .ok (.aload_n 0, 1) := by decide +kernel
theorem dX3_ranksAdded_17 : decode cX3_ranksAdded 17 = .ok (.iload_n 2, 1) := by decide +kernel
theorem dX3_ranksAdded_18 : decode cX3_ranksAdded 18 = .ok (.invokevirtual 97, 3) := by decide +kernel
theorem dX3_ranksAdded_21 : decode cX3_ranksAdded 21 = .ok (.iadd, 1) := by decide +kernel
theorem dX3_ranksAdded_22 : decode cX3_ranksAdded 22 = .ok (.istore_n 1, 1) := by decide +kernel
theorem dX3_ranksAdded_23 : decode cX3_ranksAdded 23 = .ok (.iinc 2 1, 3) := by decide +kernel
theorem dX3_ranksAdded_26 : decode cX3_ranksAdded 26 = .ok (.goto (-22), 3) := by decide +kernel
theorem dX3_ranksAdded_29 : decode cX3_ranksAdded 29 = .ok (.iload_n 1, 1) := by decide +kernel
theorem dX3_ranksAdded_30 : decode cX3_ranksAdded 30 = .ok (.ireturn, 1) := by decide +kernel
set_option maxRecDepth 20000 in
theorem ggX3_needKeeper_X0_size : GoodIn wsX3_needKeeper wsX0_size := goodIn_r _ [8, 9, 10, 11, 12, 13, 14, 15, 19, 20, 21, 22, 23] (by decide +kernel) (by decide +kernel)
set_option maxRecDepth 20000 in
theorem gX3_needKeeper_X0_size : GoodIn wsX3_needKeeper (wsV RX3 28 RX0 yX0_size wsX0_size) := goodIn_app (goodIn_of _ (by decide +kernel)) ggX3_needKeeper_X0_size
theorem dX3_needKeeper_0 : decode cX3_needKeeper 0 = .ok (.iload_n 1, 1) := by decide +kernel
theorem dX3_needKeeper_1 : decode cX3_needKeeper 1 = .ok (.ifCond .lt 14, 3) := by decide +kernel
theorem dX3_needKeeper_4 : decode cX3_needKeeper 4 = .ok (.iload_n 1, 1) := by decide +kernel
theorem dX3_needKeeper_5 : decode cX3_needKeeper 5 = .ok (.aload_n 0, 1) := by decide +kernel
theorem dX3_needKeeper_6 : decode cX3_needKeeper 6 = .ok (.getfield 10, 3) := by decide +kernel
theorem dX3_needKeeper_9 : decode cX3_needKeeper 9 = .ok (.invokevirtual 28, 3) := by decide +kernel
theorem dX3_needKeeper_12 : decode cX3_needKeeper 12 = .ok (.if_icmp .lt 13, 3) := by decide +kernel
theorem dX3_needKeeper_15 : decode cX3_needKeeper 15 = .ok (.new 59, 3) := by decide +kernel
theorem dX3_needKeeper_18 : decode cX3_needKeeper 18 = .ok (.dup, 1) := by decide +kernel
theorem dX3_needKeeper_19 : decode cX3_needKeeper 19 = .ok (.ldc 163, 2) := by decide +kernel
theorem dX3_needKeeper_21 : decode cX3_needKeeper 21 = .ok (.invokespecial 63, 3) := by decide +kernel
theorem dX3_needKeeper_24 : decode cX3_needKeeper 24 = .ok (.athrow, 1) := by decide +kernel
theorem dX3_needKeeper_25 : decode cX3_needKeeper 25 = .ok (.return_, 1) := by decide +kernel
set_option maxRecDepth 20000 in
theorem ggX3_needHut_X0_size : GoodIn wsX3_needHut wsX0_size := goodIn_r _ [8, 9, 10, 11, 12, 13, 14, 15, 19, 20, 21, 22, 23] (by decide +kernel) (by decide +kernel)
set_option maxRecDepth 20000 in
theorem gX3_needHut_X0_size : GoodIn wsX3_needHut (wsV RX3 28 RX0 yX0_size wsX0_size) := goodIn_app (goodIn_of _ (by decide +kernel)) ggX3_needHut_X0_size
theorem dX3_needHut_0 : decode cX3_needHut 0 = .ok (.iload_n 1, 1) := by decide +kernel
theorem dX3_needHut_1 : decode cX3_needHut 1 = .ok (.ifCond .lt 14, 3) := by decide +kernel
theorem dX3_needHut_4 : decode cX3_needHut 4 = .ok (.iload_n 1, 1) := by decide +kernel
theorem dX3_needHut_5 : decode cX3_needHut 5 = .ok (.aload_n 0, 1) := by decide +kernel
theorem dX3_needHut_6 : decode cX3_needHut 6 = .ok (.getfield 10, 3) := by decide +kernel
theorem dX3_needHut_9 : decode cX3_needHut 9 = .ok (.invokevirtual 28, 3) := by decide +kernel
theorem dX3_needHut_12 : decode cX3_needHut 12 = .ok (.if_icmp .lt 13, 3) := by decide +kernel
theorem dX3_needHut_15 : decode cX3_needHut 15 = .ok (.new 59, 3) := by decide +kernel
theorem dX3_needHut_18 : decode cX3_needHut 18 = .ok (.dup, 1) := by decide +kernel
theorem dX3_needHut_19 : decode cX3_needHut 19 = .ok (.ldc 165, 2) := by decide +kernel
theorem dX3_needHut_21 : decode cX3_needHut 21 = .ok (.invokespecial 63, 3) := by decide +kernel
theorem dX3_needHut_24 : decode cX3_needHut 24 = .ok (.athrow, 1) := by decide +kernel
theorem dX3_needHut_25 : decode cX3_needHut 25 = .ok (.return_, 1) := by decide +kernel
set_option maxRecDepth 20000 in
theorem ggX3_needPlace_X1_size : GoodIn wsX3_needPlace wsX1_size := goodIn_r _ [7, 8, 9, 10] (by decide +kernel) (by decide +kernel)
set_option maxRecDepth 20000 in
theorem gX3_needPlace_X1_size : GoodIn wsX3_needPlace (wsV RX3 56 RX1 yX1_size wsX1_size) := goodIn_app (goodIn_of _ (by decide +kernel)) ggX3_needPlace_X1_size
theorem dX3_needPlace_0 : decode cX3_needPlace 0 = .ok (.iload_n 1, 1) := by decide +kernel
theorem dX3_needPlace_1 : decode cX3_needPlace 1 = .ok (.ifCond .lt 11, 3) := by decide +kernel
theorem dX3_needPlace_4 : decode cX3_needPlace 4 = .ok (.iload_n 1, 1) := by decide +kernel
theorem dX3_needPlace_5 : decode cX3_needPlace 5 = .ok (.aload_n 0, 1) := by decide +kernel
theorem dX3_needPlace_6 : decode cX3_needPlace 6 = .ok (.invokevirtual 56, 3) := by decide +kernel
theorem dX3_needPlace_9 : decode cX3_needPlace 9 = .ok (.if_icmp .lt 13, 3) := by decide +kernel
theorem dX3_needPlace_12 : decode cX3_needPlace 12 = .ok (.new 59, 3) := by decide +kernel
theorem dX3_needPlace_15 : decode cX3_needPlace 15 = .ok (.dup, 1) := by decide +kernel
theorem dX3_needPlace_16 : decode cX3_needPlace 16 = .ok (.ldc 167, 2) := by decide +kernel
theorem dX3_needPlace_18 : decode cX3_needPlace 18 = .ok (.invokespecial 63, 3) := by decide +kernel
theorem dX3_needPlace_21 : decode cX3_needPlace 21 = .ok (.athrow, 1) := by decide +kernel
theorem dX3_needPlace_22 : decode cX3_needPlace 22 = .ok (.return_, 1) := by decide +kernel
theorem dX4_init_0 : decode cX4_init 0 = .ok (.aload_n 0, 1) := by decide +kernel
theorem dX4_init_1 : decode cX4_init 1 = .ok (.invokespecial 1, 3) := by decide +kernel
theorem dX4_init_4 : decode cX4_init 4 = .ok (.aload_n 0, 1) := by decide +kernel
theorem dX4_init_5 : decode cX4_init 5 = .ok (.iconst 0, 1) := by decide +kernel
theorem dX4_init_6 : decode cX4_init 6 = .ok (.newarray .int, 2) := by decide +kernel
theorem dX4_init_8 : decode cX4_init 8 = .ok (.putfield 7, 3) := by decide +kernel
theorem dX4_init_11 : decode cX4_init 11 = .ok (.aload_n 0, 1) := by decide +kernel
theorem dX4_init_12 : decode cX4_init 12 = .ok (.iconst 0, 1) := by decide +kernel
theorem dX4_init_13 : decode cX4_init 13 = .ok (.anewarray 13, 3) := by decide +kernel
theorem dX4_init_16 : decode cX4_init 16 = .ok (.putfield 14, 3) := by decide +kernel
theorem dX4_init_19 : decode cX4_init 19 = .ok (.return_, 1) := by decide +kernel
theorem dX4_come_0 : decode cX4_come 0 = .ok (.aload_n 0, 1) := by decide +kernel
theorem dX4_come_1 : decode cX4_come 1 = .ok (.getfield 7, 3) := by decide +kernel
theorem dX4_come_4 : decode cX4_come 4 = .ok (.arraylength, 1) := by decide +kernel
theorem dX4_come_5 : decode cX4_come 5 = .ok (.istore_n 1, 1) := by decide +kernel
theorem dX4_come_6 : decode cX4_come 6 = .ok (.iload_n 1, 1) := by decide +kernel
theorem dX4_come_7 : decode cX4_come 7 = .ok (.iconst 1, 1) := by decide +kernel
