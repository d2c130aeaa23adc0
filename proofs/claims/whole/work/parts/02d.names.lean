set_option maxRecDepth 20000 in
theorem gX3_wish_X1_size : GoodIn wsX3_wish (wsV RX3 56 RX1 yX1_size wsX1_size) := goodIn_app (goodIn_of _ (by decide +kernel)) ggX3_wish_X1_size
set_option maxRecDepth 20000 in
theorem ggX3_wish_X0_rankOf : GoodIn wsX3_wish wsX0_rankOf := goodIn_r _ [38, 39, 29, 30, 15, 31, 32, 33, 40, 41, 42, 43, 17, 44, 45, 46, 21, 47, 23, 48, 18, 19, 20, 22, 49, 50, 51, 52, 130, 131, 132, 133, 134] (by decide +kernel) (by decide +kernel)
set_option maxRecDepth 20000 in
theorem gX3_wish_X0_rankOf : GoodIn wsX3_wish (wsV RX3 64 RX0 yX0_rankOf wsX0_rankOf) := goodIn_app (goodIn_of _ (by decide +kernel)) ggX3_wish_X0_rankOf
set_option maxRecDepth 20000 in
theorem ggX3_wish_X1_insert : GoodIn wsX3_wish wsX1_insert := goodIn_r _ [56, 23, 48, 57, 45, 46, 21, 47, 58, 59, 60, 61, 62, 63, 64, 65, 133, 134] (by decide +kernel) (by decide +kernel)
set_option maxRecDepth 20000 in
theorem gX3_wish_X1_insert : GoodIn wsX3_wish (wsV RX3 70 RX1 yX1_insert wsX1_insert) := goodIn_app (goodIn_of _ (by decide +kernel)) ggX3_wish_X1_insert
set_option maxRecDepth 20000 in
theorem ggX3_wish_X2_runForAll : GoodIn wsX3_wish wsX2_runForAll := goodIn_r _ [70, 71, 72, 73, 69, 74, 75, 76, 77, 78, 79, 80, 81, 82, 83, 84, 13, 14, 15, 16, 17, 18, 19, 20, 21, 22, 23, 85, 86, 87, 88, 48, 58, 59, 60, 61, 62, 63, 64, 65, 89, 90, 91, 92, 93, 50, 51, 52, 94, 95, 96, 97, 98, 99, 100, 101, 102, 103, 45, 46, 47, 104, 105, 106, 107, 108, 29, 30, 31, 32, 33, 109, 110, 111, 112, 49, 113, 114, 115, 116, 117, 118, 119, 120, 121, 122, 123, 124, 125, 126, 41, 42, 43, 44, 135, 136, 137, 138, 139, 140, 141, 142, 143, 130, 131, 132, 133, 134] (by decide +kernel) (by decide +kernel)
set_option maxRecDepth 20000 in
theorem gX3_wish_X2_runForAll : GoodIn wsX3_wish (wsV RX3 42 RX2 yX2_runForAll wsX2_runForAll) := goodIn_app (goodIn_of _ (by decide +kernel)) ggX3_wish_X2_runForAll
theorem dX3_wish_0 : decode cX3_wish 0 = .ok (.aload_n 0, 1) := by decide +kernel
theorem dX3_wish_1 : decode cX3_wish 1 = .ok (.iload_n 1, 1) := by decide +kernel
theorem dX3_wish_2 : decode cX3_wish 2 = .ok (.invokevirtual 45, 3) := by decide +kernel
theorem dX3_wish_5 : decode cX3_wish 5 = .ok (.aload_n 0, 1) := by decide +kernel
theorem dX3_wish_6 : decode cX3_wish 6 = .ok (.iload_n 3, 1) := by decide +kernel
theorem dX3_wish_7 : decode cX3_wish 7 = .ok (.invokevirtual 49, 3) := by decide +kernel
theorem dX3_wish_10 : decode cX3_wish 10 = .ok (.aload_n 0, 1) := by decide +kernel
theorem dX3_wish_11 : decode cX3_wish 11 = .ok (.getfield 10, 3) := by decide +kernel
theorem dX3_wish_14 : decode cX3_wish 14 = .ok (.iload_n 1, 1) := by decide +kernel
theorem dX3_wish_15 : decode cX3_wish 15 = .ok (.invokevirtual 52, 3) := by decide +kernel
theorem dX3_wish_18 : decode cX3_wish 18 = .ok (.astore 4, 2) := by decide +kernel
theorem dX3_wish_20 : decode cX3_wish 20 = .ok (.iload_n 2, 1) := by decide +kernel
theorem dX3_wish_21 : decode cX3_wish 21 = .ok (.ifCond .lt 12, 3) := by decide +kernel
theorem dX3_wish_24 : decode cX3_wish 24 = .ok (.iload_n 2, 1) := by decide +kernel
theorem dX3_wish_25 : decode cX3_wish 25 = .ok (.aload 4, 2) := by decide +kernel
theorem dX3_wish_27 : decode cX3_wish 27 = .ok (.invokevirtual 56, 3) := by decide +kernel
theorem dX3_wish_30 : decode cX3_wish 30 = .ok (.if_icmp .le 13, 3) := by decide +kernel
theorem dX3_wish_33 : decode cX3_wish 33 = .ok (.new 59, 3) := by decide +kernel
theorem dX3_wish_36 : decode cX3_wish 36 = .ok (.dup, 1) := by decide +kernel
theorem dX3_wish_37 : decode cX3_wish 37 = .ok (.ldc 61, 2) := by decide +kernel
theorem dX3_wish_39 : decode cX3_wish 39 = .ok (.invokespecial 63, 3) := by decide +kernel
theorem dX3_wish_42 : decode cX3_wish 42 = .ok (.athrow, 1) := by decide +kernel
theorem dX3_wish_43 : decode cX3_wish 43 = .ok (.aload_n 0, 1) := by decide +kernel
theorem dX3_wish_44 : decode cX3_wish 44 = .ok (.getfield 10, 3) := by decide +kernel
theorem dX3_wish_47 : decode cX3_wish 47 = .ok (.iload_n 1, 1) := by decide +kernel
theorem dX3_wish_48 : decode cX3_wish 48 = .ok (.iload_n 3, 1) := by decide +kernel
theorem dX3_wish_49 : decode cX3_wish 49 = .ok (.invokevirtual 64, 3) := by decide +kernel
theorem dX3_wish_52 : decode cX3_wish 52 = .ok (.iconst (-1), 1) := by decide +kernel
theorem dX3_wish_53 : decode cX3_wish 53 = .ok (.if_icmp .eq 13, 3) := by decide +kernel
theorem dX3_wish_56 : decode cX3_wish 56 = .ok (.new 32, 3) := by decide +kernel
theorem dX3_wish_59 : decode cX3_wish 59 = .ok (.dup, 1) := by decide +kernel
theorem dX3_wish_60 : decode cX3_wish 60 = .ok (.ldc 68, 2) := by decide +kernel
theorem dX3_wish_62 : decode cX3_wish 62 = .ok (.invokespecial 36, 3) := by decide +kernel
theorem dX3_wish_65 : decode cX3_wish 65 = .ok (.athrow, 1) := by decide +kernel
theorem dX3_wish_66 : decode cX3_wish 66 = .ok (.aload 4, 2) := by decide +kernel
theorem dX3_wish_68 : decode cX3_wish 68 = .ok (.iload_n 2, 1) := by decide +kernel
theorem dX3_wish_69 : decode cX3_wish 69 = .ok (.iload_n 3, 1) := by decide +kernel
theorem dX3_wish_70 : decode cX3_wish 70 = .ok (.invokevirtual 70, 3) := by decide +kernel
theorem dX3_wish_73 : decode cX3_wish 73 = .ok (.aload_n 0, 1) := by decide +kernel
theorem dX3_wish_74 : decode cX3_wish 74 = .ok (.getfield 21, 3) := by decide +kernel
theorem dX3_wish_77 : decode cX3_wish 77 = .ok (.invokevirtual 42, 3) := by decide +kernel
theorem dX3_wish_80 : decode cX3_wish 80 = .ok (.aload 4, 2) := by decide +kernel
theorem dX3_wish_82 : decode cX3_wish 82 = .ok (.invokevirtual 56, 3) := by decide +kernel
theorem dX3_wish_85 : decode cX3_wish 85 = .ok (.ireturn, 1) := by decide +kernel
set_option maxRecDepth 20000 in
theorem ggX3_drop_X3_needKeeper : GoodIn wsX3_drop wsX3_needKeeper := goodIn_ca (goodIn_r _ [7, 8, 9, 1, 10, 11, 12, 13, 14, 15, 16, 17, 18, 19, 20, 21, 118, 119, 120, 121, 122, 123, 124, 125] (by decide +kernel) (by decide +kernel)) (goodIn_sub (fun _ h => List.mem_cons_of_mem _ (List.mem_append_right _ h)) (by decide +kernel))
set_option maxRecDepth 20000 in
theorem gX3_drop_X3_needKeeper : GoodIn wsX3_drop (wsV RX3 45 RX3 yX3_needKeeper wsX3_needKeeper) := goodIn_app (goodIn_of _ (by decide +kernel)) ggX3_drop_X3_needKeeper
set_option maxRecDepth 20000 in
theorem ggX3_drop_X0_likesOf : GoodIn wsX3_drop wsX0_likesOf := goodIn_r _ [25, 26, 27, 121, 122, 123] (by decide +kernel) (by decide +kernel)
set_option maxRecDepth 20000 in
theorem gX3_drop_X0_likesOf : GoodIn wsX3_drop (wsV RX3 52 RX0 yX0_likesOf wsX0_likesOf) := goodIn_app (goodIn_of _ (by decide +kernel)) ggX3_drop_X0_likesOf
set_option maxRecDepth 20000 in
theorem ggX3_drop_X3_needPlace : GoodIn wsX3_drop wsX3_needPlace := goodIn_ca (goodIn_r _ [30, 8, 9, 31, 17, 18, 19, 20, 21, 124, 125] (by decide +kernel) (by decide +kernel)) (goodIn_sub (fun _ h => List.mem_cons_of_mem _ (List.mem_append_right _ h)) (by decide +kernel))
set_option maxRecDepth 20000 in
theorem gX3_drop_X3_needPlace : GoodIn wsX3_drop (va_wsS RX3 74 yX3_needPlace wsX3_needPlace) := goodIn_app (goodIn_of _ (by decide +kernel)) ggX3_drop_X3_needPlace
set_option maxRecDepth 20000 in
theorem ggX3_drop_X1_take : GoodIn wsX3_drop wsX1_take := goodIn_r _ [35, 21, 36, 37, 38, 19, 39, 40, 41, 42, 43, 44, 45, 46, 47, 48, 124, 125] (by decide +kernel) (by decide +kernel)
set_option maxRecDepth 20000 in
theorem gX3_drop_X1_take : GoodIn wsX3_drop (wsV RX3 78 RX1 yX1_take wsX1_take) := goodIn_app (goodIn_of _ (by decide +kernel)) ggX3_drop_X1_take
set_option maxRecDepth 20000 in
theorem ggX3_drop_X2_runForAll : GoodIn wsX3_drop wsX2_runForAll := goodIn_r _ [53, 54, 55, 56, 52, 57, 58, 59, 60, 61, 62, 63, 64, 65, 66, 67, 11, 12, 13, 14, 15, 16, 17, 18, 19, 20, 21, 68, 69, 70, 71, 40, 45, 46, 47, 48, 36, 37, 38, 39, 72, 73, 74, 75, 76, 77, 78, 79, 80, 81, 82, 83, 84, 85, 86, 87, 88, 89, 42, 43, 44, 90, 91, 92, 93, 94, 23, 24, 25, 26, 27, 95, 96, 97, 98, 99, 100, 101, 102, 103, 104, 105, 106, 107, 108, 109, 110, 111, 112, 113, 114, 115, 116, 117, 126, 127, 128, 129, 130, 131, 132, 133, 134, 121, 122, 123, 124, 125] (by decide +kernel) (by decide +kernel)
set_option maxRecDepth 20000 in
theorem gX3_drop_X2_runForAll : GoodIn wsX3_drop (wsV RX3 42 RX2 yX2_runForAll wsX2_runForAll) := goodIn_app (goodIn_of _ (by decide +kernel)) ggX3_drop_X2_runForAll
theorem dX3_drop_0 : decode cX3_drop 0 = .ok (.aload_n 0, 1) := by decide +kernel
theorem dX3_drop_1 : decode cX3_drop 1 = .ok (.iload_n 1, 1) := by decide +kernel
theorem dX3_drop_2 : decode cX3_drop 2 = .ok (.invokevirtual 45, 3) := by decide +kernel
theorem dX3_drop_5 : decode cX3_drop 5 = .ok (.aload_n 0, 1) := by decide +kernel
theorem dX3_drop_6 : decode cX3_drop 6 = .ok (.getfield 10, 3) := by decide +kernel
theorem dX3_drop_9 : decode cX3_drop 9 = .ok (.iload_n 1, 1) := by decide +kernel
theorem dX3_drop_10 : decode cX3_drop 10 = .ok (.invokevirtual 52, 3) := by decide +kernel
theorem dX3_drop_13 : decode cX3_drop 13 = .ok (.astore_n 3, 1) := by decide +kernel
theorem dX3_drop_14 : decode cX3_drop 14 = .ok (.aload_n 3, 1) := by decide +kernel
theorem dX3_drop_15 : decode cX3_drop 15 = .ok (.iload_n 2, 1) := by decide +kernel
theorem dX3_drop_16 : decode cX3_drop 16 = .ok (.invokestatic 74, 3) := by decide +kernel
theorem dX3_drop_19 : decode cX3_drop 19 = .ok (.aload_n 3, 1) := by decide +kernel
theorem dX3_drop_20 : decode cX3_drop 20 = .ok (.iload_n 2, 1) := by decide +kernel
theorem dX3_drop_21 : decode cX3_drop 21 = .ok (.invokevirtual 78, 3) := by decide +kernel
theorem dX3_drop_24 : decode cX3_drop 24 = .ok (.istore 4, 2) := by decide +kernel
theorem dX3_drop_26 : decode cX3_drop 26 = .ok (.aload_n 0, 1) := by decide +kernel
theorem dX3_drop_27 : decode cX3_drop 27 = .ok (.getfield 21, 3) := by decide +kernel
theorem dX3_drop_30 : decode cX3_drop 30 = .ok (.invokevirtual 42, 3) := by decide +kernel
theorem dX3_drop_33 : decode cX3_drop 33 = .ok (.iload 4, 2) := by decide +kernel
theorem dX3_drop_35 : decode cX3_drop 35 = .ok (.ireturn, 1) := by decide +kernel
set_option maxRecDepth 20000 in
theorem ggX3_list_X3_needKeeper : GoodIn wsX3_list wsX3_needKeeper := goodIn_ca (goodIn_r _ [6, 7, 8, 1, 9, 10, 11, 12, 13, 14, 15, 16, 17, 18, 19, 20, 36, 37, 38, 39, 40, 41, 42, 43] (by decide +kernel) (by decide +kernel)) (goodIn_sub (fun _ h => List.mem_cons_of_mem _ (List.mem_append_right _ h)) (by decide +kernel))
set_option maxRecDepth 20000 in
theorem gX3_list_X3_needKeeper : GoodIn wsX3_list (wsV RX3 45 RX3 yX3_needKeeper wsX3_needKeeper) := goodIn_app (goodIn_of _ (by decide +kernel)) ggX3_list_X3_needKeeper
set_option maxRecDepth 20000 in
theorem ggX3_list_X0_likesOf : GoodIn wsX3_list wsX0_likesOf := goodIn_r _ [24, 25, 26, 39, 40, 41] (by decide +kernel) (by decide +kernel)
set_option maxRecDepth 20000 in
theorem gX3_list_X0_likesOf : GoodIn wsX3_list (wsV RX3 52 RX0 yX0_likesOf wsX0_likesOf) := goodIn_app (goodIn_of _ (by decide +kernel)) ggX3_list_X0_likesOf
set_option maxRecDepth 20000 in
theorem ggX3_list_X3_needPlace : GoodIn wsX3_list wsX3_needPlace := goodIn_ca (goodIn_r _ [29, 7, 8, 30, 16, 17, 18, 19, 20, 42, 43] (by decide +kernel) (by decide +kernel)) (goodIn_sub (fun _ h => List.mem_cons_of_mem _ (List.mem_append_right _ h)) (by decide +kernel))
set_option maxRecDepth 20000 in
theorem gX3_list_X3_needPlace : GoodIn wsX3_list (va_wsS RX3 74 yX3_needPlace wsX3_needPlace) := goodIn_app (goodIn_of _ (by decide +kernel)) ggX3_list_X3_needPlace
set_option maxRecDepth 20000 in
theorem ggX3_list_X1_at : GoodIn wsX3_list wsX1_at := goodIn_r _ [34, 20, 35, 42, 43] (by decide +kernel) (by decide +kernel)
set_option maxRecDepth 20000 in
theorem gX3_list_X1_at : GoodIn wsX3_list (wsV RX3 82 RX1 yX1_at wsX1_at) := goodIn_app (goodIn_of _ (by decide +kernel)) ggX3_list_X1_at
theorem dX3_list_0 : decode cX3_list 0 = .ok (.aload_n 0, 1) := by decide +kernel
theorem dX3_list_1 : decode cX3_list 1 = .ok (.iload_n 1, 1) := by decide +kernel
theorem dX3_list_2 : decode cX3_list 2 = .ok (.invokevirtual 45, 3) := by decide +kernel
theorem dX3_list_5 : decode cX3_list 5 = .ok (.aload_n 0, 1) := by decide +kernel
theorem dX3_list_6 : decode cX3_list 6 = .ok (.getfield 10, 3) := by decide +kernel
theorem dX3_list_9 : decode cX3_list 9 = .ok (.iload_n 1, 1) := by decide +kernel
theorem dX3_list_10 : decode cX3_list 10 = .ok (.invokevirtual 52, 3) := by decide +kernel
theorem dX3_list_13 : decode cX3_list 13 = .ok (.astore_n 3, 1) := by decide +kernel
theorem dX3_list_14 : decode cX3_list 14 = .ok (.aload_n 3, 1) := by decide +kernel
theorem dX3_list_15 : decode cX3_list 15 = .ok (.iload_n 2, 1) := by decide +kernel
theorem dX3_list_16 : decode cX3_list 16 = .ok (.invokestatic 74, 3) := by decide +kernel
theorem dX3_list_19 : decode cX3_list 19 = .ok (.aload_n 3, 1) := by decide +kernel
theorem dX3_list_20 : decode cX3_list 20 = .ok (.iload_n 2, 1) := by decide +kernel
theorem dX3_list_21 : decode cX3_list 21 = .ok (.invokevirtual 82, 3) := by decide +kernel
theorem dX3_list_24 : decode cX3_list 24 = .ok (.ireturn, 1) := by decide +kernel
set_option maxRecDepth 20000 in
theorem ggX3_told_X3_needKeeper : GoodIn wsX3_told wsX3_needKeeper := goodIn_ca (goodIn_r _ [9, 1, 2, 3, 10, 11, 12, 13, 14, 15, 16, 17, 18, 19, 20, 21, 69, 70, 71, 72, 73, 74, 75, 76] (by decide +kernel) (by decide +kernel)) (goodIn_sub (fun _ h => List.mem_cons_of_mem _ (List.mem_append_right _ h)) (by decide +kernel))
set_option maxRecDepth 20000 in
theorem gX3_told_X3_needKeeper : GoodIn wsX3_told (wsV RX3 45 RX3 yX3_needKeeper wsX3_needKeeper) := goodIn_app (goodIn_of _ (by decide +kernel)) ggX3_told_X3_needKeeper
set_option maxRecDepth 20000 in
theorem ggX3_told_X0_hutOf : GoodIn wsX3_told wsX0_hutOf := goodIn_r _ [25, 15, 26, 27, 28, 19, 29, 21, 30, 72, 73, 74, 75, 76] (by decide +kernel) (by decide +kernel)
set_option maxRecDepth 20000 in
theorem gX3_told_X0_hutOf : GoodIn wsX3_told (wsV RX3 85 RX0 yX0_hutOf wsX0_hutOf) := goodIn_app (goodIn_of _ (by decide +kernel)) ggX3_told_X0_hutOf
set_option maxRecDepth 20000 in
theorem ggX3_told_X0_likesOf : GoodIn wsX3_told wsX0_likesOf := goodIn_r _ [34, 35, 36, 72, 73, 74] (by decide +kernel) (by decide +kernel)
set_option maxRecDepth 20000 in
theorem gX3_told_X0_likesOf : GoodIn wsX3_told (wsV RX3 52 RX0 yX0_likesOf wsX0_likesOf) := goodIn_app (goodIn_of _ (by decide +kernel)) ggX3_told_X0_likesOf
set_option maxRecDepth 20000 in
theorem ggX3_told_X1_size : GoodIn wsX3_told wsX1_size := goodIn_r _ [20, 21, 75, 76] (by decide +kernel) (by decide +kernel)
set_option maxRecDepth 20000 in
theorem gX3_told_X1_size : GoodIn wsX3_told (wsV RX3 56 RX1 yX1_size wsX1_size) := goodIn_app (goodIn_of _ (by decide +kernel)) ggX3_told_X1_size
set_option maxRecDepth 20000 in
theorem ggX3_told_X2_hutFor : GoodIn wsX3_told wsX2_hutFor := goodIn_r _ [42, 43, 44, 27, 28, 19, 29, 21, 30, 77, 78, 79, 80, 81, 82, 83, 84, 85, 75, 76] (by decide +kernel) (by decide +kernel)
set_option maxRecDepth 20000 in
theorem gX3_told_X2_hutFor : GoodIn wsX3_told (wsV RX3 88 RX2 yX2_hutFor wsX2_hutFor) := goodIn_app (goodIn_of _ (by decide +kernel)) ggX3_told_X2_hutFor
set_option maxRecDepth 20000 in
theorem ggX3_told_X2_roundOf : GoodIn wsX3_told wsX2_roundOf := goodIn_r _ [48, 49, 44, 27, 28, 19, 29, 21, 30, 77, 78, 79, 80, 81, 82, 83, 84, 85, 75, 76] (by decide +kernel) (by decide +kernel)
set_option maxRecDepth 20000 in
theorem gX3_told_X2_roundOf : GoodIn wsX3_told (wsV RX3 91 RX2 yX2_roundOf wsX2_roundOf) := goodIn_app (goodIn_of _ (by decide +kernel)) ggX3_told_X2_roundOf
set_option maxRecDepth 20000 in
theorem ggX3_told_X2_ringSizeOf : GoodIn wsX3_told wsX2_ringSizeOf := goodIn_r _ [53, 54, 44, 27, 28, 19, 29, 21, 30, 77, 78, 79, 80, 81, 82, 83, 84, 85, 75, 76] (by decide +kernel) (by decide +kernel)
set_option maxRecDepth 20000 in
theorem gX3_told_X2_ringSizeOf : GoodIn wsX3_told (wsV RX3 94 RX2 yX2_ringSizeOf wsX2_ringSizeOf) := goodIn_app (goodIn_of _ (by decide +kernel)) ggX3_told_X2_ringSizeOf
set_option maxRecDepth 20000 in
theorem ggX3_told_X3_rankOfGot : GoodIn wsX3_told wsX3_rankOfGot := goodIn_r _ [58, 3, 4, 38, 39, 40, 41, 42, 43, 44, 27, 28, 19, 29, 21, 30, 59, 60, 61, 13, 62, 63, 32, 33, 34, 35, 36, 64, 23, 24, 25, 15, 26, 16, 17, 18, 20, 65, 66, 67, 68, 69, 70, 71, 77, 78, 79, 80, 81, 82, 83, 84, 85, 75, 76, 72, 73, 74] (by decide +kernel) (by decide +kernel)
set_option maxRecDepth 20000 in
theorem gX3_told_X3_rankOfGot : GoodIn wsX3_told (wsV RX3 97 RX3 yX3_rankOfGot wsX3_rankOfGot) := goodIn_app (goodIn_of _ (by decide +kernel)) ggX3_told_X3_rankOfGot
theorem dX3_told_0 : decode cX3_told 0 = .ok (.aload_n 0, 1) := by decide +kernel
theorem dX3_told_1 : decode cX3_told 1 = .ok (.iload_n 1, 1) := by decide +kernel
theorem dX3_told_2 : decode cX3_told 2 = .ok (.invokevirtual 45, 3) := by decide +kernel
theorem dX3_told_5 : decode cX3_told 5 = .ok (.iload_n 2, 1) := by decide +kernel
theorem dX3_told_6 : decode cX3_told 6 = .ok (.tableswitch 92 0 5 #[38, 47, 59, 68, 77, 86], 38) := by decide +kernel
theorem dX3_told_44 : decode cX3_told 44 = .ok (.aload_n 0, 1) := by decide +kernel
theorem dX3_told_45 : decode cX3_told 45 = .ok (.getfield 10, 3) := by decide +kernel
theorem dX3_told_48 : decode cX3_told 48 = .ok (.iload_n 1, 1) := by decide +kernel
theorem dX3_told_49 : decode cX3_told 49 = .ok (.invokevirtual 85, 3) := by decide +kernel
theorem dX3_told_52 : decode cX3_told 52 = .ok (.ireturn, 1) := by decide +kernel
theorem dX3_told_53 : decode cX3_told 53 = .ok (.aload_n 0, 1) := by decide +kernel
theorem dX3_told_54 : decode cX3_told 54 = .ok (.getfield 10, 3) := by decide +kernel
theorem dX3_told_57 : decode cX3_told 57 = .ok (.iload_n 1, 1) := by decide +kernel
theorem dX3_told_58 : decode cX3_told 58 = .ok (.invokevirtual 52, 3) := by decide +kernel
theorem dX3_told_61 : decode cX3_told 61 = .ok (.invokevirtual 56, 3) := by decide +kernel
theorem dX3_told_64 : decode cX3_told 64 = .ok (.ireturn, 1) := by decide +kernel
theorem dX3_told_65 : decode cX3_told 65 = .ok (.aload_n 0, 1) := by decide +kernel
theorem dX3_told_66 : decode cX3_told 66 = .ok (.getfield 21, 3) := by decide +kernel
theorem dX3_told_69 : decode cX3_told 69 = .ok (.iload_n 1, 1) := by decide +kernel
theorem dX3_told_70 : decode cX3_told 70 = .ok (.invokevirtual 88, 3) := by decide +kernel
theorem dX3_told_73 : decode cX3_told 73 = .ok (.ireturn, 1) := by decide +kernel
theorem dX3_told_74 : decode cX3_told 74 = .ok (.aload_n 0, 1) := by decide +kernel
theorem dX3_told_75 : decode cX3_told 75 = .ok (.getfield 21, 3) := by decide +kernel
theorem dX3_told_78 : decode cX3_told 78 = .ok (.iload_n 1, 1) := by decide +kernel
theorem dX3_told_79 : decode cX3_told 79 = .ok (.invokevirtual 91, 3) := by decide +kernel
theorem dX3_told_82 : decode cX3_told 82 = .ok (.ireturn, 1) := by decide +kernel
theorem dX3_told_83 : decode cX3_told 83 = .ok (.aload_n 0, 1) := by decide +kernel
theorem dX3_told_84 : decode cX3_told 84 = .ok (.getfield 21, 3) := by decide +kernel
theorem dX3_told_87 : decode cX3_told 87 = .ok (.iload_n 1, 1) := by decide +kernel
theorem dX3_told_88 : decode cX3_told 88 = .ok (.invokevirtual 94, 3) := by decide +kernel
theorem dX3_told_91 : decode cX3_told 91 = .ok (.ireturn, 1) := by decide +kernel
theorem dX3_told_92 : decode cX3_told 92 = .ok (.aload_n 0, 1) := by decide +kernel
theorem dX3_told_93 : decode cX3_told 93 = .ok (.iload_n 1, 1) := by decide +kernel
theorem dX3_told_94 : decode cX3_told 94 = .ok (.invokevirtual 97, 3) := by decide +kernel
theorem dX3_told_97 : decode cX3_told 97 = .ok (.ireturn, 1) := by decide +kernel
theorem dX3_told_98 : decode cX3_told 98 = .ok (.new 59, 3) := by decide +kernel
theorem dX3_told_101 : decode cX3_told 101 = .ok (.dup, 1) := by decide +kernel
theorem dX3_told_102 : decode cX3_told 102 = .ok (.ldc 100, 2) := by decide +kernel
theorem dX3_told_104 : decode cX3_told 104 = .ok (.invokespecial 63, 3) := by decide +kernel
theorem dX3_told_107 : decode cX3_told 107 = .ok (.athrow, 1) := by decide +kernel
set_option maxRecDepth 20000 in
theorem ggX3_points_X3_needKeeper : GoodIn wsX3_points wsX3_needKeeper := goodIn_ca (goodIn_r _ [8, 9, 10, 11, 12, 13, 14, 15, 16, 17, 18, 19, 20, 21, 22, 23, 58, 59, 60, 61, 62, 63, 64, 65] (by decide +kernel) (by decide +kernel)) (goodIn_sub (fun _ h => List.mem_cons_of_mem _ (List.mem_append_right _ h)) (by decide +kernel))
set_option maxRecDepth 20000 in
theorem gX3_points_X3_needKeeper : GoodIn wsX3_points (wsV RX3 45 RX3 yX3_needKeeper wsX3_needKeeper) := goodIn_app (goodIn_of _ (by decide +kernel)) ggX3_points_X3_needKeeper
set_option maxRecDepth 20000 in
theorem ggX3_points_X2_isThereIn : GoodIn wsX3_points wsX2_isThereIn := goodIn_r _ [28, 29, 30, 31, 32, 21, 33, 23, 34, 66, 67, 68, 69, 70, 71, 72, 73, 74, 64, 65] (by decide +kernel) (by decide +kernel)
set_option maxRecDepth 20000 in
theorem gX3_points_X2_isThereIn : GoodIn wsX3_points (wsV RX3 107 RX2 yX2_isThereIn wsX2_isThereIn) := goodIn_app (goodIn_of _ (by decide +kernel)) ggX3_points_X2_isThereIn
set_option maxRecDepth 20000 in
theorem ggX3_points_X2_aimIn : GoodIn wsX3_points wsX2_aimIn := goodIn_r _ [38, 39, 40, 41, 42, 43, 44, 15, 45, 46, 47, 48, 19, 20, 21, 22, 23, 30, 31, 32, 33, 34, 49, 50, 51, 52, 17, 53, 54, 55, 56, 57, 25, 26, 27, 28, 29, 66, 67, 68, 69, 70, 71, 72, 73, 74, 61, 62, 63, 64, 65] (by decide +kernel) (by decide +kernel)
set_option maxRecDepth 20000 in
theorem gX3_points_X2_aimIn : GoodIn wsX3_points (wsV RX3 111 RX2 yX2_aimIn wsX2_aimIn) := goodIn_app (goodIn_of _ (by decide +kernel)) ggX3_points_X2_aimIn
theorem dX3_points_0 : decode cX3_points 0 = .ok (.aload_n 0, 1) := by decide +kernel
theorem dX3_points_1 : decode cX3_points 1 = .ok (.iload_n 1, 1) := by decide +kernel
theorem dX3_points_2 : decode cX3_points 2 = .ok (.invokevirtual 45, 3) := by decide +kernel
theorem dX3_points_5 : decode cX3_points 5 = .ok (.iload_n 2, 1) := by decide +kernel
theorem dX3_points_6 : decode cX3_points 6 = .ok (.iconst 1, 1) := by decide +kernel
theorem dX3_points_7 : decode cX3_points 7 = .ok (.if_icmp .ge 13, 3) := by decide +kernel
theorem dX3_points_10 : decode cX3_points 10 = .ok (.new 102, 3) := by decide +kernel
theorem dX3_points_13 : decode cX3_points 13 = .ok (.dup, 1) := by decide +kernel
theorem dX3_points_14 : decode cX3_points 14 = .ok (.ldc 104, 2) := by decide +kernel
theorem dX3_points_16 : decode cX3_points 16 = .ok (.invokespecial 106, 3) := by decide +kernel
theorem dX3_points_19 : decode cX3_points 19 = .ok (.athrow, 1) := by decide +kernel
theorem dX3_points_20 : decode cX3_points 20 = .ok (.aload_n 0, 1) := by decide +kernel
theorem dX3_points_21 : decode cX3_points 21 = .ok (.getfield 21, 3) := by decide +kernel
theorem dX3_points_24 : decode cX3_points 24 = .ok (.iload_n 1, 1) := by decide +kernel
theorem dX3_points_25 : decode cX3_points 25 = .ok (.iload_n 2, 1) := by decide +kernel
theorem dX3_points_26 : decode cX3_points 26 = .ok (.invokevirtual 107, 3) := by decide +kernel
theorem dX3_points_29 : decode cX3_points 29 = .ok (.ifCond .eq 15, 3) := by decide +kernel
theorem dX3_points_32 : decode cX3_points 32 = .ok (.aload_n 0, 1) := by decide +kernel
theorem dX3_points_33 : decode cX3_points 33 = .ok (.getfield 21, 3) := by decide +kernel
theorem dX3_points_36 : decode cX3_points 36 = .ok (.iload_n 1, 1) := by decide +kernel
theorem dX3_points_37 : decode cX3_points 37 = .ok (.iload_n 2, 1) := by decide +kernel
theorem dX3_points_38 : decode cX3_points 38 = .ok (.invokevirtual 111, 3) := by decide +kernel
theorem dX3_points_41 : decode cX3_points 41 = .ok (.goto 4, 3) := by decide +kernel
theorem dX3_points_44 : decode cX3_points 44 = .ok (.iconst (-1), 1) := by decide +kernel
theorem dX3_points_45 : decode cX3_points 45 = .ok (.ireturn, 1) := by decide +kernel
set_option maxRecDepth 20000 in
theorem ggX3_rank_X3_needKeeper : GoodIn wsX3_rank wsX3_needKeeper := goodIn_ca (goodIn_r _ [6, 7, 8, 1, 9, 10, 11, 12, 13, 14, 15, 16, 17, 18, 19, 20, 48, 49, 50, 51, 52, 53, 54, 55] (by decide +kernel) (by decide +kernel)) (goodIn_sub (fun _ h => List.mem_cons_of_mem _ (List.mem_append_right _ h)) (by decide +kernel))
set_option maxRecDepth 20000 in
theorem gX3_rank_X3_needKeeper : GoodIn wsX3_rank (wsV RX3 45 RX3 yX3_needKeeper wsX3_needKeeper) := goodIn_app (goodIn_of _ (by decide +kernel)) ggX3_rank_X3_needKeeper
set_option maxRecDepth 20000 in
theorem ggX3_rank_X3_needHut : GoodIn wsX3_rank wsX3_needHut := goodIn_ca (goodIn_r _ [24, 7, 8, 1, 9, 10, 11, 12, 13, 14, 15, 16, 17, 18, 19, 20, 48, 49, 50, 51, 52, 53, 54, 55] (by decide +kernel) (by decide +kernel)) (goodIn_sub (fun _ h => List.mem_cons_of_mem _ (List.mem_append_right _ h)) (by decide +kernel))
set_option maxRecDepth 20000 in
theorem gX3_rank_X3_needHut : GoodIn wsX3_rank (wsV RX3 49 RX3 yX3_needHut wsX3_needHut) := goodIn_app (goodIn_of _ (by decide +kernel)) ggX3_rank_X3_needHut
set_option maxRecDepth 20000 in
theorem ggX3_rank_X0_rankOf : GoodIn wsX3_rank wsX0_rankOf := goodIn_r _ [28, 29, 30, 31, 12, 32, 33, 34, 35, 36, 37, 38, 14, 39, 40, 41, 18, 42, 20, 43, 15, 16, 17, 19, 44, 45, 46, 47, 51, 52, 53, 54, 55] (by decide +kernel) (by decide +kernel)
set_option maxRecDepth 20000 in
theorem gX3_rank_X0_rankOf : GoodIn wsX3_rank (wsV RX3 64 RX0 yX0_rankOf wsX0_rankOf) := goodIn_app (goodIn_of _ (by decide +kernel)) ggX3_rank_X0_rankOf
theorem dX3_rank_0 : decode cX3_rank 0 = .ok (.aload_n 0, 1) := by decide +kernel
theorem dX3_rank_1 : decode cX3_rank 1 = .ok (.iload_n 1, 1) := by decide +kernel
theorem dX3_rank_2 : decode cX3_rank 2 = .ok (.invokevirtual 45, 3) := by decide +kernel
theorem dX3_rank_5 : decode cX3_rank 5 = .ok (.aload_n 0, 1) := by decide +kernel
theorem dX3_rank_6 : decode cX3_rank 6 = .ok (.iload_n 2, 1) := by decide +kernel
theorem dX3_rank_7 : decode cX3_rank 7 = .ok (.invokevirtual 49, 3) := by decide +kernel
theorem dX3_rank_10 : decode cX3_rank 10 = .ok (.aload_n 0, 1) := by decide +kernel
theorem dX3_rank_11 : decode cX3_rank 11 = .ok (.getfield 10, 3) := by decide +kernel
theorem dX3_rank_14 : decode cX3_rank 14 = .ok (.iload_n 1, 1) := by decide +kernel
theorem dX3_rank_15 : decode cX3_rank 15 = .ok (.iload_n 2, 1) := by decide +kernel
theorem dX3_rank_16 : decode cX3_rank 16 = .ok (.invokevirtual 64, 3) := by decide +kernel
theorem dX3_rank_19 : decode cX3_rank 19 = .ok (.ireturn, 1) := by decide +kernel
set_option maxRecDepth 20000 in
theorem ggX3_count_X0_size : GoodIn wsX3_count wsX0_size := goodIn_r _ [9, 10, 11, 12, 13, 14, 15, 16, 88, 89, 90, 91, 92] (by decide +kernel) (by decide +kernel)
set_option maxRecDepth 20000 in
theorem gX3_count_X0_size : GoodIn wsX3_count (wsV RX3 28 RX0 yX0_size wsX0_size) := goodIn_app (goodIn_of _ (by decide +kernel)) ggX3_count_X0_size
set_option maxRecDepth 20000 in
theorem ggX3_count_X2_rounds : GoodIn wsX3_count wsX2_rounds := goodIn_r _ [21, 22, 93, 94, 95, 96, 97, 98, 99, 100, 101] (by decide +kernel) (by decide +kernel)
set_option maxRecDepth 20000 in
theorem gX3_count_X2_rounds : GoodIn wsX3_count (wsV RX3 114 RX2 yX2_rounds wsX2_rounds) := goodIn_app (goodIn_of _ (by decide +kernel)) ggX3_count_X2_rounds
set_option maxRecDepth 20000 in
theorem ggX3_count_X2_ringsOfMore : GoodIn wsX3_count wsX2_ringsOfMore := goodIn_r _ [26, 27, 93, 94, 95, 96, 97, 98, 99, 100, 101] (by decide +kernel) (by decide +kernel)
set_option maxRecDepth 20000 in
theorem gX3_count_X2_ringsOfMore : GoodIn wsX3_count (wsV RX3 117 RX2 yX2_ringsOfMore wsX2_ringsOfMore) := goodIn_app (goodIn_of _ (by decide +kernel)) ggX3_count_X2_ringsOfMore
set_option maxRecDepth 20000 in
theorem ggX3_count_X3_keepersWithAnotherHut : GoodIn wsX3_count wsX3_keepersWithAnotherHut := goodIn_r _ [32, 3, 4, 5, 6, 7, 8, 9, 10, 11, 12, 13, 14, 15, 16, 33, 34, 35, 20, 36, 37, 38, 39, 40, 41, 42, 43, 44, 45, 46, 47, 85, 86, 87, 88, 89, 90, 91, 92, 93, 94, 95, 96, 97, 98, 99, 100, 101] (by decide +kernel) (by decide +kernel)
set_option maxRecDepth 20000 in
theorem gX3_count_X3_keepersWithAnotherHut : GoodIn wsX3_count (wsV RX3 120 RX3 yX3_keepersWithAnotherHut wsX3_keepersWithAnotherHut) := goodIn_app (goodIn_of _ (by decide +kernel)) ggX3_count_X3_keepersWithAnotherHut
set_option maxRecDepth 20000 in
theorem ggX3_count_X3_ranksAdded : GoodIn wsX3_count wsX3_ranksAdded := goodIn_r _ [51, 3, 5, 6, 7, 8, 9, 10, 11, 12, 13, 14, 15, 16, 52, 53, 54, 31, 55, 4, 33, 34, 35, 20, 36, 37, 38, 39, 40, 41, 42, 56, 57, 58, 59, 60, 61, 62, 63, 64, 65, 66, 44, 45, 46, 47, 67, 68, 69, 70, 85, 86, 87, 88, 89, 90, 91, 92, 93, 94, 95, 96, 97, 98, 99, 100, 101] (by decide +kernel) (by decide +kernel)
set_option maxRecDepth 20000 in
theorem gX3_count_X3_ranksAdded : GoodIn wsX3_count (wsV RX3 123 RX3 yX3_ranksAdded wsX3_ranksAdded) := goodIn_app (goodIn_of _ (by decide +kernel)) ggX3_count_X3_ranksAdded
set_option maxRecDepth 20000 in
theorem ggX3_count_X2_greatestRing : GoodIn wsX3_count wsX2_greatestRing := goodIn_r _ [74, 75, 76, 77, 78, 14, 79, 16, 80, 81, 82, 83, 84, 39, 40, 41, 42, 93, 94, 95, 96, 97, 98, 99, 100, 101, 91, 92] (by decide +kernel) (by decide +kernel)
set_option maxRecDepth 20000 in
theorem gX3_count_X2_greatestRing : GoodIn wsX3_count (wsV RX3 126 RX2 yX2_greatestRing wsX2_greatestRing) := goodIn_app (goodIn_of _ (by decide +kernel)) ggX3_count_X2_greatestRing
theorem dX3_count_0 : decode cX3_count 0 = .ok (.iload_n 1, 1) := by decide +kernel
theorem dX3_count_1 : decode cX3_count 1 = .ok (.tableswitch 81 0 5 #[39, 47, 55, 63, 68, 73], 39) := by decide +kernel
theorem dX3_count_40 : decode cX3_count 40 = .ok (.aload_n 0, 1) := by decide +kernel
theorem dX3_count_41 : decode cX3_count 41 = .ok (.getfield 10, 3) := by decide +kernel
theorem dX3_count_44 : decode cX3_count 44 = .ok (.invokevirtual 28, 3) := by decide +kernel
theorem dX3_count_47 : decode cX3_count 47 = .ok (.ireturn, 1) := by decide +kernel
theorem dX3_count_48 : decode cX3_count 48 = .ok (.aload_n 0, 1) := by decide +kernel
theorem dX3_count_49 : decode cX3_count 49 = .ok (.getfield 21, 3) := by decide +kernel
theorem dX3_count_52 : decode cX3_count 52 = .ok (.invokevirtual 114, 3) := by decide +kernel
theorem dX3_count_55 : decode cX3_count 55 = .ok (.ireturn, 1) := by decide +kernel
theorem dX3_count_56 : decode cX3_count 56 = .ok (.aload_n 0, 1) := by decide +kernel
theorem dX3_count_57 : decode cX3_count 57 = .ok (.getfield 21, 3) := by decide +kernel
theorem dX3_count_60 : decode cX3_count 60 = .ok (.invokevirtual 117, 3) := by decide +kernel
theorem dX3_count_63 : decode cX3_count 63 = .ok (.ireturn, 1) := by decide +kernel
theorem dX3_count_64 : decode cX3_count 64 = .ok (.aload_n 0, 1) := by decide +kernel
theorem dX3_count_65 : decode cX3_count 65 = .ok (.invokevirtual 120, 3) := by decide +kernel
theorem dX3_count_68 : decode cX3_count 68 = .ok (.ireturn, 1) := by decide +kernel
theorem dX3_count_69 : decode cX3_count 69 = .ok (.aload_n 0, 1) := by decide +kernel
theorem dX3_count_70 : decode cX3_count 70 = .ok (.invokevirtual 123, 3) := by decide +kernel
theorem dX3_count_73 : decode cX3_count 73 = .ok (.ireturn, 1) := by decide +kernel
theorem dX3_count_74 : decode cX3_count 74 = .ok (.aload_n 0, 1) := by decide +kernel
theorem dX3_count_75 : decode cX3_count 75 = .ok (.getfield 21, 3) := by decide +kernel
theorem dX3_count_78 : decode cX3_count 78 = .ok (.invokevirtual 126, 3) := by decide +kernel
theorem dX3_count_81 : decode cX3_count 81 = .ok (.ireturn, 1) := by decide +kernel
theorem dX3_count_82 : decode cX3_count 82 = .ok (.new 59, 3) := by decide +kernel
theorem dX3_count_85 : decode cX3_count 85 = .ok (.dup, 1) := by decide +kernel
theorem dX3_count_86 : decode cX3_count 86 = .ok (.ldc 100, 2) := by decide +kernel
theorem dX3_count_88 : decode cX3_count 88 = .ok (.invokespecial 63, 3) := by decide +kernel
theorem dX3_count_91 : decode cX3_count 91 = .ok (.athrow, 1) := by decide +kernel
set_option maxRecDepth 20000 in
theorem ggX3_swaps_X3_needKeeper : GoodIn wsX3_swaps wsX3_needKeeper := goodIn_ca (goodIn_r _ [6, 7, 8, 9, 10, 11, 12, 13, 14, 15, 16, 17, 18, 19, 20, 21, 60, 61, 62, 63, 64, 65, 66, 67] (by decide +kernel) (by decide +kernel)) (goodIn_sub (fun _ h => List.mem_cons_of_mem _ (List.mem_append_right _ h)) (by decide +kernel))
set_option maxRecDepth 20000 in
theorem gX3_swaps_X3_needKeeper : GoodIn wsX3_swaps (wsV RX3 45 RX3 yX3_needKeeper wsX3_needKeeper) := goodIn_app (goodIn_of _ (by decide +kernel)) ggX3_swaps_X3_needKeeper
set_option maxRecDepth 20000 in
theorem ggX3_swaps_X2_hutFor : GoodIn wsX3_swaps wsX2_hutFor := goodIn_r _ [26, 27, 28, 29, 30, 19, 31, 21, 32, 68, 69, 70, 71, 72, 73, 74, 75, 76, 66, 67] (by decide +kernel) (by decide +kernel)
set_option maxRecDepth 20000 in
theorem gX3_swaps_X2_hutFor : GoodIn wsX3_swaps (wsV RX3 88 RX2 yX2_hutFor wsX2_hutFor) := goodIn_app (goodIn_of _ (by decide +kernel)) ggX3_swaps_X2_hutFor
set_option maxRecDepth 20000 in
theorem ggX3_swaps_X3_hadRather : GoodIn wsX3_swaps wsX3_hadRather := goodIn_r _ [36, 9, 37, 38, 39, 13, 40, 41, 42, 43, 44, 45, 46, 47, 48, 49, 50, 15, 51, 29, 30, 19, 31, 21, 32, 16, 17, 18, 20, 52, 53, 54, 55, 56, 57, 58, 5, 59, 1, 22, 23, 24, 25, 26, 27, 28, 60, 61, 62, 63, 64, 65, 66, 67, 68, 69, 70, 71, 72, 73, 74, 75, 76] (by decide +kernel) (by decide +kernel)
set_option maxRecDepth 20000 in
theorem gX3_swaps_X3_hadRather : GoodIn wsX3_swaps (wsV RX3 129 RX3 yX3_hadRather wsX3_hadRather) := goodIn_app (goodIn_of _ (by decide +kernel)) ggX3_swaps_X3_hadRather
theorem dX3_swaps_0 : decode cX3_swaps 0 = .ok (.aload_n 0, 1) := by decide +kernel
theorem dX3_swaps_1 : decode cX3_swaps 1 = .ok (.iload_n 1, 1) := by decide +kernel
theorem dX3_swaps_2 : decode cX3_swaps 2 = .ok (.invokevirtual 45, 3) := by decide +kernel
theorem dX3_swaps_5 : decode cX3_swaps 5 = .ok (.aload_n 0, 1) := by decide +kernel
theorem dX3_swaps_6 : decode cX3_swaps 6 = .ok (.iload_n 2, 1) := by decide +kernel
theorem dX3_swaps_7 : decode cX3_swaps 7 = .ok (.invokevirtual 45, 3) := by decide +kernel
theorem dX3_swaps_10 : decode cX3_swaps 10 = .ok (.aload_n 0, 1) := by decide +kernel
theorem dX3_swaps_11 : decode cX3_swaps 11 = .ok (.iload_n 1, 1) := by decide +kernel
theorem dX3_swaps_12 : decode cX3_swaps 12 = .ok (.aload_n 0, 1) := by decide +kernel
theorem dX3_swaps_13 : decode cX3_swaps 13 = .ok (.getfield 21, 3) := by decide +kernel
theorem dX3_swaps_16 : decode cX3_swaps 16 = .ok (.iload_n 2, 1) := by decide +kernel
theorem dX3_swaps_17 : decode cX3_swaps 17 = .ok (.invokevirtual 88, 3) := by decide +kernel
theorem dX3_swaps_20 : decode cX3_swaps 20 = .ok (.invokevirtual 129, 3) := by decide +kernel
theorem dX3_swaps_23 : decode cX3_swaps 23 = .ok (.ifCond .eq 23, 3) := by decide +kernel
theorem dX3_swaps_26 : decode cX3_swaps 26 = .ok (.aload_n 0, 1) := by decide +kernel
theorem dX3_swaps_27 : decode cX3_swaps 27 = .ok (.iload_n 2, 1) := by decide +kernel
theorem dX3_swaps_28 : decode cX3_swaps 28 = .ok (.aload_n 0, 1) := by decide +kernel
theorem dX3_swaps_29 : decode cX3_swaps 29 = .ok (.getfield 21, 3) := by decide +kernel
theorem dX3_swaps_32 : decode cX3_swaps 32 = .ok (.iload_n 1, 1) := by decide +kernel
theorem dX3_swaps_33 : decode cX3_swaps 33 = .ok (.invokevirtual 88, 3) := by decide +kernel
theorem dX3_swaps_36 : decode cX3_swaps 36 = .ok (.invokevirtual 129, 3) := by decide +kernel
theorem dX3_swaps_39 : decode cX3_swaps 39 = .ok (.ifCond .eq 7, 3) := by decide +kernel
theorem dX3_swaps_42 : decode cX3_swaps 42 = .ok (.iconst 1, 1) := by decide +kernel
theorem dX3_swaps_43 : decode cX3_swaps 43 = .ok (.goto 4, 3) := by decide +kernel
theorem dX3_swaps_46 : decode cX3_swaps 46 = .ok (.iconst 0, 1) := by decide +kernel
theorem dX3_swaps_47 : decode cX3_swaps 47 = .ok (.ireturn, 1) := by decide +kernel
set_option maxRecDepth 20000 in
theorem ggX3_without_X3_needKeeper : GoodIn wsX3_without wsX3_needKeeper := goodIn_ca (goodIn_r _ [8, 9, 10, 11, 12, 13, 14, 15, 16, 17, 18, 19, 20, 21, 22, 23, 114, 115, 116, 117, 118, 119, 120, 121] (by decide +kernel) (by decide +kernel)) (goodIn_sub (fun _ h => List.mem_cons_of_mem _ (List.mem_append_right _ h)) (by decide +kernel))
set_option maxRecDepth 20000 in
theorem gX3_without_X3_needKeeper : GoodIn wsX3_without (wsV RX3 45 RX3 yX3_needKeeper wsX3_needKeeper) := goodIn_app (goodIn_of _ (by decide +kernel)) ggX3_without_X3_needKeeper
set_option maxRecDepth 20000 in
theorem ggX3_without_X2_runWithout : GoodIn wsX3_without wsX2_runWithout := goodIn_r _ [28, 29, 30, 31, 32, 27, 33, 34, 35, 36, 37, 38, 39, 40, 41, 42, 13, 14, 15, 16, 17, 18, 19, 20, 21, 22, 23, 43, 44, 45, 46, 47, 48, 49, 50, 51, 52, 53, 54, 55, 56, 57, 58, 59, 60, 61, 62, 63, 64, 65, 66, 67, 68, 69, 70, 71, 72, 73, 74, 75, 76, 77, 78, 79, 80, 81, 82, 83, 84, 85, 86, 87, 88, 89, 90, 91, 92, 93, 94, 95, 96, 97, 98, 99, 100, 101, 102, 103, 104, 105, 106, 107, 108, 109, 122, 123, 124, 125, 126, 127, 128, 129, 130, 117, 118, 119, 120, 121] (by decide +kernel) (by decide +kernel)
set_option maxRecDepth 20000 in
theorem gX3_without_X2_runWithout : GoodIn wsX3_without (wsV RX3 134 RX2 yX2_runWithout wsX2_runWithout) := goodIn_app (goodIn_of _ (by decide +kernel)) ggX3_without_X2_runWithout
set_option maxRecDepth 20000 in
theorem ggX3_without_X2_hutFor : GoodIn wsX3_without wsX2_hutFor := goodIn_r _ [113, 35, 74, 75, 76, 21, 77, 23, 47, 122, 123, 124, 125, 126, 127, 128, 129, 130, 120, 121] (by decide +kernel) (by decide +kernel)
set_option maxRecDepth 20000 in
theorem gX3_without_X2_hutFor : GoodIn wsX3_without (wsV RX3 88 RX2 yX2_hutFor wsX2_hutFor) := goodIn_app (goodIn_of _ (by decide +kernel)) ggX3_without_X2_hutFor
theorem dX3_without_0 : decode cX3_without 0 = .ok (.aload_n 0, 1) := by decide +kernel
theorem dX3_without_1 : decode cX3_without 1 = .ok (.iload_n 1, 1) := by decide +kernel
theorem dX3_without_2 : decode cX3_without 2 = .ok (.invokevirtual 45, 3) := by decide +kernel
theorem dX3_without_5 : decode cX3_without 5 = .ok (.aload_n 0, 1) := by decide +kernel
theorem dX3_without_6 : decode cX3_without 6 = .ok (.iload_n 2, 1) := by decide +kernel
theorem dX3_without_7 : decode cX3_without 7 = .ok (.invokevirtual 45, 3) := by decide +kernel
theorem dX3_without_10 : decode cX3_without 10 = .ok (.iload_n 1, 1) := by decide +kernel
theorem dX3_without_11 : decode cX3_without 11 = .ok (.iload_n 2, 1) := by decide +kernel
theorem dX3_without_12 : decode cX3_without 12 = .ok (.if_icmp .ne 13, 3) := by decide +kernel
theorem dX3_without_15 : decode cX3_without 15 = .ok (.new 102, 3) := by decide +kernel
theorem dX3_without_18 : decode cX3_without 18 = .ok (.dup, 1) := by decide +kernel
theorem dX3_without_19 : decode cX3_without 19 = .ok (.ldc 132, 2) := by decide +kernel
theorem dX3_without_21 : decode cX3_without 21 = .ok (.invokespecial 106, 3) := by decide +kernel
theorem dX3_without_24 : decode cX3_without 24 = .ok (.athrow, 1) := by decide +kernel
theorem dX3_without_25 : decode cX3_without 25 = .ok (.aload_n 0, 1) := by decide +kernel
theorem dX3_without_26 : decode cX3_without 26 = .ok (.getfield 25, 3) := by decide +kernel
theorem dX3_without_29 : decode cX3_without 29 = .ok (.iload_n 2, 1) := by decide +kernel
theorem dX3_without_30 : decode cX3_without 30 = .ok (.invokevirtual 134, 3) := by decide +kernel
theorem dX3_without_33 : decode cX3_without 33 = .ok (.aload_n 0, 1) := by decide +kernel
theorem dX3_without_34 : decode cX3_without 34 = .ok (.getfield 25, 3) := by decide +kernel
theorem dX3_without_37 : decode cX3_without 37 = .ok (.iload_n 1, 1) := by decide +kernel
theorem dX3_without_38 : decode cX3_without 38 = .ok (.invokevirtual 88, 3) := by decide +kernel
theorem dX3_without_41 : decode cX3_without 41 = .ok (.ireturn, 1) := by decide +kernel
set_option maxRecDepth 20000 in
theorem ggX3_feign_X3_needKeeper : GoodIn wsX3_feign wsX3_needKeeper := goodIn_ca (goodIn_r _ [6, 7, 8, 9, 10, 11, 12, 13, 14, 15, 16, 17, 18, 19, 20, 21, 121, 122, 123, 124, 125, 126, 127, 128] (by decide +kernel) (by decide +kernel)) (goodIn_sub (fun _ h => List.mem_cons_of_mem _ (List.mem_append_right _ h)) (by decide +kernel))
set_option maxRecDepth 20000 in
theorem gX3_feign_X3_needKeeper : GoodIn wsX3_feign (wsV RX3 45 RX3 yX3_needKeeper wsX3_needKeeper) := goodIn_app (goodIn_of _ (by decide +kernel)) ggX3_feign_X3_needKeeper
set_option maxRecDepth 20000 in
theorem ggX3_feign_X3_needHut : GoodIn wsX3_feign wsX3_needHut := goodIn_ca (goodIn_r _ [25, 7, 8, 9, 10, 11, 12, 13, 14, 15, 16, 17, 18, 19, 20, 21, 121, 122, 123, 124, 125, 126, 127, 128] (by decide +kernel) (by decide +kernel)) (goodIn_sub (fun _ h => List.mem_cons_of_mem _ (List.mem_append_right _ h)) (by decide +kernel))
set_option maxRecDepth 20000 in
theorem gX3_feign_X3_needHut : GoodIn wsX3_feign (wsV RX3 49 RX3 yX3_needHut wsX3_needHut) := goodIn_app (goodIn_of _ (by decide +kernel)) ggX3_feign_X3_needHut
set_option maxRecDepth 20000 in
theorem ggX3_feign_X2_runFeigning : GoodIn wsX3_feign wsX2_runFeigning := goodIn_r _ [30, 31, 32, 33, 34, 35, 36, 29, 37, 38, 39, 40, 41, 42, 43, 44, 11, 12, 13, 14, 15, 16, 17, 18, 19, 20, 21, 45, 46, 47, 48, 49, 50, 51, 52, 53, 54, 55, 56, 57, 58, 59, 60, 61, 62, 63, 64, 65, 66, 67, 68, 69, 70, 71, 72, 73, 74, 75, 76, 77, 78, 79, 80, 81, 82, 83, 84, 85, 86, 87, 88, 89, 90, 91, 92, 93, 94, 95, 96, 97, 98, 99, 100, 101, 102, 103, 104, 105, 106, 107, 108, 109, 110, 111, 112, 113, 114, 115, 116, 129, 130, 131, 132, 133, 134, 135, 136, 137, 124, 125, 126, 127, 128] (by decide +kernel) (by decide +kernel)
set_option maxRecDepth 20000 in
theorem gX3_feign_X2_runFeigning : GoodIn wsX3_feign (wsV RX3 137 RX2 yX2_runFeigning wsX2_runFeigning) := goodIn_app (goodIn_of _ (by decide +kernel)) ggX3_feign_X2_runFeigning
set_option maxRecDepth 20000 in
theorem ggX3_feign_X2_hutFor : GoodIn wsX3_feign wsX2_hutFor := goodIn_r _ [120, 38, 88, 63, 64, 19, 65, 21, 49, 129, 130, 131, 132, 133, 134, 135, 136, 137, 127, 128] (by decide +kernel) (by decide +kernel)
set_option maxRecDepth 20000 in
theorem gX3_feign_X2_hutFor : GoodIn wsX3_feign (wsV RX3 88 RX2 yX2_hutFor wsX2_hutFor) := goodIn_app (goodIn_of _ (by decide +kernel)) ggX3_feign_X2_hutFor
theorem dX3_feign_0 : decode cX3_feign 0 = .ok (.aload_n 0, 1) := by decide +kernel
theorem dX3_feign_1 : decode cX3_feign 1 = .ok (.iload_n 1, 1) := by decide +kernel
theorem dX3_feign_2 : decode cX3_feign 2 = .ok (.invokevirtual 45, 3) := by decide +kernel
theorem dX3_feign_5 : decode cX3_feign 5 = .ok (.aload_n 0, 1) := by decide +kernel
theorem dX3_feign_6 : decode cX3_feign 6 = .ok (.iload_n 2, 1) := by decide +kernel
theorem dX3_feign_7 : decode cX3_feign 7 = .ok (.invokevirtual 49, 3) := by decide +kernel
theorem dX3_feign_10 : decode cX3_feign 10 = .ok (.aload_n 0, 1) := by decide +kernel
theorem dX3_feign_11 : decode cX3_feign 11 = .ok (.getfield 25, 3) := by decide +kernel
theorem dX3_feign_14 : decode cX3_feign 14 = .ok (.iload_n 1, 1) := by decide +kernel
theorem dX3_feign_15 : decode cX3_feign 15 = .ok (.iload_n 2, 1) := by decide +kernel
theorem dX3_feign_16 : decode cX3_feign 16 = .ok (.invokevirtual 137, 3) := by decide +kernel
theorem dX3_feign_19 : decode cX3_feign 19 = .ok (.aload_n 0, 1) := by decide +kernel
theorem dX3_feign_20 : decode cX3_feign 20 = .ok (.getfield 25, 3) := by decide +kernel
theorem dX3_feign_23 : decode cX3_feign 23 = .ok (.iload_n 1, 1) := by decide +kernel
theorem dX3_feign_24 : decode cX3_feign 24 = .ok (.invokevirtual 88, 3) := by decide +kernel
theorem dX3_feign_27 : decode cX3_feign 27 = .ok (.ireturn, 1) := by decide +kernel
set_option maxRecDepth 20000 in
theorem ggX3_move_X3_keepersWithAnotherHut : GoodIn wsX3_move wsX3_keepersWithAnotherHut := goodIn_r _ [7, 1, 2, 8, 9, 10, 11, 12, 13, 14, 15, 16, 17, 18, 19, 20, 21, 22, 23, 24, 25, 26, 27, 28, 29, 30, 31, 32, 33, 34, 35, 121, 122, 123, 124, 125, 126, 127, 128, 129, 130, 131, 132, 133, 134, 135, 136, 137] (by decide +kernel) (by decide +kernel)
set_option maxRecDepth 20000 in
theorem gX3_move_X3_keepersWithAnotherHut : GoodIn wsX3_move (wsV RX3 120 RX3 yX3_keepersWithAnotherHut wsX3_keepersWithAnotherHut) := goodIn_app (goodIn_of _ (by decide +kernel)) ggX3_move_X3_keepersWithAnotherHut
set_option maxRecDepth 20000 in
theorem ggX3_move_X0_size : GoodIn wsX3_move wsX0_size := goodIn_r _ [12, 13, 14, 15, 16, 17, 18, 19, 124, 125, 126, 127, 128] (by decide +kernel) (by decide +kernel)
set_option maxRecDepth 20000 in
theorem gX3_move_X0_size : GoodIn wsX3_move (wsV RX3 28 RX0 yX0_size wsX0_size) := goodIn_app (goodIn_of _ (by decide +kernel)) ggX3_move_X0_size
set_option maxRecDepth 20000 in
theorem ggX3_move_X2_hutFor : GoodIn wsX3_move wsX2_hutFor := goodIn_r _ [24, 25, 26, 27, 28, 17, 29, 19, 30, 129, 130, 131, 132, 133, 134, 135, 136, 137, 127, 128] (by decide +kernel) (by decide +kernel)
set_option maxRecDepth 20000 in
theorem gX3_move_X2_hutFor : GoodIn wsX3_move (wsV RX3 88 RX2 yX2_hutFor wsX2_hutFor) := goodIn_app (goodIn_of _ (by decide +kernel)) ggX3_move_X2_hutFor
set_option maxRecDepth 20000 in
theorem ggX3_move_X0_moveInto : GoodIn wsX3_move wsX0_moveInto := goodIn_r _ [39, 13, 40, 41, 42, 11, 43, 44, 45, 46, 47, 48, 17, 49, 19, 30, 50, 51, 52, 53, 54, 55, 56, 57, 58, 59, 60, 61, 124, 125, 126, 127, 128] (by decide +kernel) (by decide +kernel)
set_option maxRecDepth 20000 in
theorem gX3_move_X0_moveInto : GoodIn wsX3_move (wsV RX3 140 RX0 yX0_moveInto wsX0_moveInto) := goodIn_app (goodIn_of _ (by decide +kernel)) ggX3_move_X0_moveInto
set_option maxRecDepth 20000 in
theorem ggX3_move_X2_runForAll : GoodIn wsX3_move wsX2_runForAll := goodIn_r _ [65, 66, 67, 68, 23, 69, 70, 25, 71, 72, 73, 74, 75, 76, 77, 78, 9, 10, 11, 12, 13, 14, 15, 16, 17, 18, 19, 79, 80, 81, 82, 30, 83, 59, 60, 61, 54, 55, 56, 57, 84, 85, 86, 87, 88, 47, 48, 49, 89, 90, 91, 92, 93, 94, 95, 96, 97, 26, 27, 28, 29, 98, 99, 100, 101, 102, 41, 42, 43, 44, 45, 103, 104, 105, 106, 46, 107, 108, 109, 110, 111, 112, 113, 114, 115, 116, 117, 118, 119, 120, 32, 33, 34, 35, 129, 130, 131, 132, 133, 134, 135, 136, 137, 124, 125, 126, 127, 128] (by decide +kernel) (by decide +kernel)
set_option maxRecDepth 20000 in
theorem gX3_move_X2_runForAll : GoodIn wsX3_move (wsV RX3 42 RX2 yX2_runForAll wsX2_runForAll) := goodIn_app (goodIn_of _ (by decide +kernel)) ggX3_move_X2_runForAll
theorem dX3_move_0 : decode cX3_move 0 = .ok (.aload_n 0, 1) := by decide +kernel
theorem dX3_move_1 : decode cX3_move 1 = .ok (.invokevirtual 120, 3) := by decide +kernel
theorem dX3_move_4 : decode cX3_move 4 = .ok (.istore_n 1, 1) := by decide +kernel
theorem dX3_move_5 : decode cX3_move 5 = .ok (.iconst 0, 1) := by decide +kernel
theorem dX3_move_6 : decode cX3_move 6 = .ok (.istore_n 2, 1) := by decide +kernel
theorem dX3_move_7 : decode cX3_move 7 = .ok (.iload_n 2, 1) := by decide +kernel
theorem dX3_move_8 : decode cX3_move 8 = .ok (.aload_n 0, 1) := by decide +kernel
theorem dX3_move_9 : decode cX3_move 9 = .ok (.getfield 10, 3) := by decide +kernel
theorem dX3_move_12 : decode cX3_move 12 = .ok (.invokevirtual 28, 3) := by decide +kernel
theorem dX3_move_15 : decode cX3_move 15 = .ok (.if_icmp .ge 25, 3) := by decide +kernel
theorem dX3_move_18 : decode cX3_move 18 = .ok (.aload_n 0, 1) := by decide +kernel
theorem dX3_move_19 : decode cX3_move 19 = .ok (.getfield 10, 3) := by decide +kernel
theorem dX3_move_22 : decode cX3_move 22 = .ok (.iload_n 2, 1) := by decide +kernel
theorem dX3_move_23 : decode cX3_move 23 = .ok (.aload_n 0, 1) := by decide +kernel
theorem dX3_move_24 : decode cX3_move 24 = .ok (.getfield 21, 3) := by decide +kernel
theorem dX3_move_27 : decode cX3_move 27 = .ok (.iload_n 2, 1) := by decide +kernel
theorem dX3_move_28 : decode cX3_move 28 = .ok (.invokevirtual 88, 3) := by decide +kernel
theorem dX3_move_31 : decode cX3_move 31 = .ok (.invokevirtual 140, 3) := by decide +kernel
theorem dX3_move_34 : decode cX3_move 34 = .ok (.iinc 2 1, 3) := by decide +kernel
theorem dX3_move_37 : decode cX3_move 37 = .ok (.goto (-30), 3) := by decide +kernel
theorem dX3_move_40 : decode cX3_move 40 = .ok (.aload_n 0, 1) := by decide +kernel
theorem dX3_move_41 : decode cX3_move 41 = .ok (.getfield 21, 3) := by decide +kernel
theorem dX3_move_44 : decode cX3_move 44 = .ok (.invokevirtual 42, 3) := by decide +kernel
theorem dX3_move_47 : decode cX3_move 47 = .ok (.iload_n 1, 1) := by decide +kernel
theorem dX3_move_48 : decode cX3_move 48 = .ok (.ireturn, 1) := by decide +kernel
set_option maxRecDepth 20000 in
theorem ggX3_mean_X0_size : GoodIn wsX3_mean wsX0_size := goodIn_r _ [7, 8, 9, 10, 11, 12, 13, 14, 33, 34, 35, 36, 37] (by decide +kernel) (by decide +kernel)
set_option maxRecDepth 20000 in
theorem gX3_mean_X0_size : GoodIn wsX3_mean (wsV RX3 28 RX0 yX0_size wsX0_size) := goodIn_app (goodIn_of _ (by decide +kernel)) ggX3_mean_X0_size
set_option maxRecDepth 20000 in
theorem ggX3_mean_X2_roundsAdded : GoodIn wsX3_mean wsX2_roundsAdded := goodIn_r _ [19, 20, 21, 22, 23, 12, 24, 14, 25, 26, 27, 28, 29, 38, 39, 40, 41, 42, 43, 44, 45, 46, 36, 37] (by decide +kernel) (by decide +kernel)
set_option maxRecDepth 20000 in
theorem gX3_mean_X2_roundsAdded : GoodIn wsX3_mean (wsV RX3 143 RX2 yX2_roundsAdded wsX2_roundsAdded) := goodIn_app (goodIn_of _ (by decide +kernel)) ggX3_mean_X2_roundsAdded
theorem dX3_mean_0 : decode cX3_mean 0 = .ok (.aload_n 0, 1) := by decide +kernel
theorem dX3_mean_1 : decode cX3_mean 1 = .ok (.getfield 10, 3) := by decide +kernel
theorem dX3_mean_4 : decode cX3_mean 4 = .ok (.invokevirtual 28, 3) := by decide +kernel
theorem dX3_mean_7 : decode cX3_mean 7 = .ok (.istore_n 1, 1) := by decide +kernel
theorem dX3_mean_8 : decode cX3_mean 8 = .ok (.iload_n 1, 1) := by decide +kernel
theorem dX3_mean_9 : decode cX3_mean 9 = .ok (.ifCond .ne 7, 3) := by decide +kernel
theorem dX3_mean_12 : decode cX3_mean 12 = .ok (.dconst 0, 1) := by decide +kernel
theorem dX3_mean_13 : decode cX3_mean 13 = .ok (.goto 14, 3) := by decide +kernel
theorem dX3_mean_16 : decode cX3_mean 16 = .ok (.aload_n 0, 1) := by decide +kernel
theorem dX3_mean_17 : decode cX3_mean 17 = .ok (.getfield 21, 3) := by decide +kernel
theorem dX3_mean_20 : decode cX3_mean 20 = .ok (.invokevirtual 143, 3) := by decide +kernel
theorem dX3_mean_23 : decode cX3_mean 23 = .ok (.i2d, 1) := by decide +kernel
theorem dX3_mean_24 : decode cX3_mean 24 = .ok (.iload_n 1, 1) := by decide +kernel
theorem dX3_mean_25 : decode cX3_mean 25 = .ok (.i2d, 1) := by decide +kernel
theorem dX3_mean_26 : decode cX3_mean 26 = .ok (.ddiv, 1) := by decide +kernel
theorem dX3_mean_27 : decode cX3_mean 27 = .ok (.dreturn, 1) := by decide +kernel
set_option maxRecDepth 20000 in
theorem ggX3_digest_X3_count : GoodIn wsX3_digest wsX3_count := goodIn_ca (goodIn_r _ [8, 9, 10, 3, 11, 12, 13, 14, 15, 16, 17, 18, 19, 20, 21, 22, 23, 24, 25, 26, 27, 28, 29, 30, 31, 32, 33, 34, 35, 36, 37, 7, 38, 39, 40, 41, 42, 43, 44, 45, 46, 47, 48, 49, 50, 51, 52, 53, 54, 55, 56, 57, 58, 59, 60, 61, 62, 63, 64, 65, 66, 67, 68, 69, 70, 71, 72, 73, 74, 75, 76, 77, 78, 79, 80, 81, 82, 83, 84, 85, 86, 87, 88, 89, 90, 139, 140, 141, 142, 143, 144, 145, 146, 147, 148, 149, 150, 151, 152, 153, 154, 155] (by decide +kernel) (by decide +kernel)) (goodIn_sub (fun _ h => List.mem_cons_of_mem _ (List.mem_append_left _ (List.mem_append_right _ h))) (by decide +kernel))
set_option maxRecDepth 20000 in
theorem gX3_digest_X3_count : GoodIn wsX3_digest (wsV RX3 150 RX3 yX3_count wsX3_count) := goodIn_app (goodIn_of _ (by decide +kernel)) ggX3_digest_X3_count
set_option maxRecDepth 20000 in
theorem ggX3_digest_X0_size : GoodIn wsX3_digest wsX0_size := goodIn_r _ [16, 17, 18, 19, 20, 21, 22, 23, 142, 143, 144, 145, 146] (by decide +kernel) (by decide +kernel)
set_option maxRecDepth 20000 in
theorem gX3_digest_X0_size : GoodIn wsX3_digest (wsV RX3 28 RX0 yX0_size wsX0_size) := goodIn_app (goodIn_of _ (by decide +kernel)) ggX3_digest_X0_size
set_option maxRecDepth 20000 in
theorem ggX3_digest_X3_digestWithKeeper : GoodIn wsX3_digest wsX3_digestWithKeeper := goodIn_ca (goodIn_ca (goodIn_r _ [94, 2, 3, 95, 96, 97, 7, 98, 9, 10, 11, 99, 100, 101, 102, 12, 13, 14, 15, 16, 17, 18, 19, 20, 21, 22, 23, 49, 50, 51, 52, 53, 45, 46, 47, 48, 103, 67, 68, 69, 70, 71, 104, 39, 40, 41, 27, 42, 43, 44, 105, 106, 107, 108, 109, 110, 111, 112, 113, 81, 58, 59, 60, 61, 62, 63, 64, 65, 66, 72, 73, 74, 75, 76, 114, 115, 116, 117, 118, 119, 120, 121, 122, 123, 124, 125, 126, 127, 128, 129, 130, 131, 132, 133, 134, 135, 136, 137, 138, 139, 140, 141, 142, 143, 144, 145, 146, 147, 148, 149, 150, 151, 152, 153, 154, 155] (by decide +kernel) (by decide +kernel)) (goodIn_sub (fun _ h => List.mem_cons_of_mem _ (List.mem_append_left _ (List.mem_append_right _ h))) (by decide +kernel))) (goodIn_sub (fun _ h => List.mem_cons_of_mem _ (List.mem_append_right _ h)) (by decide +kernel))
set_option maxRecDepth 20000 in
theorem gX3_digest_X3_digestWithKeeper : GoodIn wsX3_digest (wsV RX3 153 RX3 yX3_digestWithKeeper wsX3_digestWithKeeper) := goodIn_app (goodIn_of _ (by decide +kernel)) ggX3_digest_X3_digestWithKeeper
theorem dX3_digest_0 : decode cX3_digest 0 = .ok (.ldc2_w 146, 3) := by decide +kernel
theorem dX3_digest_3 : decode cX3_digest 3 = .ok (.lstore_n 1, 1) := by decide +kernel
theorem dX3_digest_4 : decode cX3_digest 4 = .ok (.iconst 0, 1) := by decide +kernel
theorem dX3_digest_5 : decode cX3_digest 5 = .ok (.istore_n 3, 1) := by decide +kernel
theorem dX3_digest_6 : decode cX3_digest 6 = .ok (.iload_n 3, 1) := by decide +kernel
theorem dX3_digest_7 : decode cX3_digest 7 = .ok (.bipush 6, 2) := by decide +kernel
theorem dX3_digest_9 : decode cX3_digest 9 = .ok (.if_icmp .ge 22, 3) := by decide +kernel
theorem dX3_digest_12 : decode cX3_digest 12 = .ok (.lload_n 1, 1) := by decide +kernel
theorem dX3_digest_13 : decode cX3_digest 13 = .ok (.ldc2_w 148, 3) := by decide +kernel
theorem dX3_digest_16 : decode cX3_digest 16 = .ok (.lmul, 1) := by decide +kernel
theorem dX3_digest_17 : decode cX3_digest 17 = .ok (.aload_n 0, 1) := by decide +kernel
theorem dX3_digest_18 : decode cX3_digest 18 = .ok (.iload_n 3, 1) := by decide +kernel
theorem dX3_digest_19 : decode cX3_digest 19 = .ok (.invokevirtual 150, 3) := by decide +kernel
theorem dX3_digest_22 : decode cX3_digest 22 = .ok (.i2l, 1) := by decide +kernel
theorem dX3_digest_23 : decode cX3_digest 23 = .ok (.ladd, 1) := by decide +kernel
theorem dX3_digest_24 : decode cX3_digest 24 = .ok (.lstore_n 1, 1) := by decide +kernel
theorem dX3_digest_25 : decode cX3_digest 25 = .ok (.iinc 3 1, 3) := by decide +kernel
theorem dX3_digest_28 : decode cX3_digest 28 = .ok (.goto (-22), 3) := by decide +kernel
theorem dX3_digest_31 : decode cX3_digest 31 = .ok (.iconst 0, 1) := by decide +kernel
theorem dX3_digest_32 : decode cX3_digest 32 = .ok (.istore_n 3, 1) := by decide +kernel
theorem dX3_digest_33 : decode cX3_digest 33 = .ok (.iload_n 3, 1) := by decide +kernel
theorem dX3_digest_34 : decode cX3_digest 34 = .ok (.aload_n 0, 1) := by decide +kernel
theorem dX3_digest_35 : decode cX3_digest 35 = .ok (.getfield 10, 3) := by decide +kernel
theorem dX3_digest_38 : decode cX3_digest 38 = .ok (.invokevirtual 28, 3) := by decide +kernel
theorem dX3_digest_41 : decode cX3_digest 41 = .ok (.if_icmp .ge 16, 3) := by decide +kernel
theorem dX3_digest_44 : decode cX3_digest 44 = .ok (.aload_n 0, 1) := by decide +kernel
theorem dX3_digest_45 : decode cX3_digest 45 = .ok (.lload_n 1, 1) := by decide +kernel
theorem dX3_digest_46 : decode cX3_digest 46 = .ok (.iload_n 3, 1) := by decide +kernel
theorem dX3_digest_47 : decode cX3_digest 47 = .ok (.invokevirtual 153, 3) := by decide +kernel
theorem dX3_digest_50 : decode cX3_digest 50 = .ok (.lstore_n 1, 1) := by decide +kernel
theorem dX3_digest_51 : decode cX3_digest 51 = .ok (.iinc 3 1, 3) := by decide +kernel
theorem dX3_digest_54 : decode cX3_digest 54 = .ok (.goto (-21), 3) := by decide +kernel
theorem dX3_digest_57 : decode cX3_digest 57 = .ok (.lload_n 1, 1) := by decide +kernel
theorem dX3_digest_58 : decode cX3_digest 58 = .ok (.lreturn, 1) := by decide +kernel
set_option maxRecDepth 20000 in
theorem ggX3_digestWithKeeper_X3_told : GoodIn wsX3_digestWithKeeper wsX3_told := goodIn_ca (goodIn_r _ [7, 8, 9, 2, 10, 11, 12, 13, 6, 14, 15, 16, 17, 18, 19, 20, 21, 22, 23, 24, 25, 26, 27, 28, 29, 30, 31, 32, 33, 34, 35, 36, 37, 38, 39, 40, 41, 42, 43, 44, 45, 46, 47, 48, 49, 50, 51, 52, 53, 54, 55, 56, 57, 58, 59, 60, 61, 62, 63, 64, 65, 66, 67, 68, 69, 70, 71, 72, 73, 99, 100, 101, 102, 103, 104, 105, 106, 107, 108, 109, 110, 111, 112, 113, 114, 115] (by decide +kernel) (by decide +kernel)) (goodIn_sub (fun _ h => List.mem_cons_of_mem _ (List.mem_append_left _ (List.mem_append_right _ h))) (by decide +kernel))
set_option maxRecDepth 20000 in
theorem gX3_digestWithKeeper_X3_told : GoodIn wsX3_digestWithKeeper (wsV RX3 157 RX3 yX3_told wsX3_told) := goodIn_app (goodIn_of _ (by decide +kernel)) ggX3_digestWithKeeper_X3_told
set_option maxRecDepth 20000 in
theorem ggX3_digestWithKeeper_X0_likesOf : GoodIn wsX3_digestWithKeeper wsX0_likesOf := goodIn_r _ [39, 40, 41, 102, 103, 104] (by decide +kernel) (by decide +kernel)
set_option maxRecDepth 20000 in
theorem gX3_digestWithKeeper_X0_likesOf : GoodIn wsX3_digestWithKeeper (wsV RX3 52 RX0 yX0_likesOf wsX0_likesOf) := goodIn_app (goodIn_of _ (by decide +kernel)) ggX3_digestWithKeeper_X0_likesOf
set_option maxRecDepth 20000 in
theorem ggX3_digestWithKeeper_X1_size : GoodIn wsX3_digestWithKeeper wsX1_size := goodIn_r _ [25, 26, 105, 106] (by decide +kernel) (by decide +kernel)
set_option maxRecDepth 20000 in
theorem gX3_digestWithKeeper_X1_size : GoodIn wsX3_digestWithKeeper (wsV RX3 56 RX1 yX1_size wsX1_size) := goodIn_app (goodIn_of _ (by decide +kernel)) ggX3_digestWithKeeper_X1_size
set_option maxRecDepth 20000 in
theorem ggX3_digestWithKeeper_X1_at : GoodIn wsX3_digestWithKeeper wsX1_at := goodIn_r _ [34, 26, 35, 105, 106] (by decide +kernel) (by decide +kernel)
set_option maxRecDepth 20000 in
theorem gX3_digestWithKeeper_X1_at : GoodIn wsX3_digestWithKeeper (wsV RX3 82 RX1 yX1_at wsX1_at) := goodIn_app (goodIn_of _ (by decide +kernel)) ggX3_digestWithKeeper_X1_at
set_option maxRecDepth 20000 in
theorem ggX3_digestWithKeeper_X3_points : GoodIn wsX3_digestWithKeeper wsX3_points := goodIn_ca (goodIn_ca (goodIn_r _ [78, 79, 80, 10, 11, 12, 13, 6, 14, 8, 9, 2, 15, 16, 17, 18, 19, 20, 21, 22, 23, 24, 25, 26, 81, 82, 83, 46, 84, 54, 49, 32, 33, 34, 35, 85, 86, 87, 88, 89, 90, 91, 92, 37, 38, 39, 40, 41, 93, 94, 95, 96, 97, 70, 71, 72, 73, 98, 99, 100, 101, 102, 103, 104, 105, 106, 107, 108, 109, 110, 111, 112, 113, 114, 115] (by decide +kernel) (by decide +kernel)) (goodIn_sub (fun _ h => List.mem_cons_of_mem _ (List.mem_append_right _ h)) (by decide +kernel))) (goodIn_sub (fun _ h => List.mem_cons_of_mem _ (List.mem_append_left _ (List.mem_append_right _ h))) (by decide +kernel))
set_option maxRecDepth 20000 in
theorem gX3_digestWithKeeper_X3_points : GoodIn wsX3_digestWithKeeper (wsV RX3 160 RX3 yX3_points wsX3_points) := goodIn_app (goodIn_of _ (by decide +kernel)) ggX3_digestWithKeeper_X3_points
theorem dX3_digestWithKeeper_0 : decode cX3_digestWithKeeper 0 = .ok (.lload_n 1, 1) := by decide +kernel
theorem dX3_digestWithKeeper_1 : decode cX3_digestWithKeeper 1 = .ok (.lstore 4, 2) := by decide +kernel
theorem dX3_digestWithKeeper_3 : decode cX3_digestWithKeeper 3 = .ok (.iconst 0, 1) := by decide +kernel
theorem dX3_digestWithKeeper_4 : decode cX3_digestWithKeeper 4 = .ok (.istore 6, 2) := by decide +kernel
theorem dX3_digestWithKeeper_6 : decode cX3_digestWithKeeper 6 = .ok (.iload 6, 2) := by decide +kernel
theorem dX3_digestWithKeeper_8 : decode cX3_digestWithKeeper 8 = .ok (.bipush 6, 2) := by decide +kernel
theorem dX3_digestWithKeeper_10 : decode cX3_digestWithKeeper 10 = .ok (.if_icmp .ge 26, 3) := by decide +kernel
theorem dX3_digestWithKeeper_13 : decode cX3_digestWithKeeper 13 = .ok (.lload 4, 2) := by decide +kernel
theorem dX3_digestWithKeeper_15 : decode cX3_digestWithKeeper 15 = .ok (.ldc2_w 148, 3) := by decide +kernel
theorem dX3_digestWithKeeper_18 : decode cX3_digestWithKeeper 18 = .ok (.lmul, 1) := by decide +kernel
theorem dX3_digestWithKeeper_19 : decode cX3_digestWithKeeper 19 = .ok (.aload_n 0, 1) := by decide +kernel
theorem dX3_digestWithKeeper_20 : decode cX3_digestWithKeeper 20 = .ok (.iload_n 3, 1) := by decide +kernel
theorem dX3_digestWithKeeper_21 : decode cX3_digestWithKeeper 21 = .ok (.iload 6, 2) := by decide +kernel
theorem dX3_digestWithKeeper_23 : decode cX3_digestWithKeeper 23 = .ok (.invokevirtual 157, 3) := by decide +kernel
theorem dX3_digestWithKeeper_26 : decode cX3_digestWithKeeper 26 = .ok (.i2l, 1) := by decide +kernel
theorem dX3_digestWithKeeper_27 : decode cX3_digestWithKeeper 27 = .ok (.ladd, 1) := by decide +kernel
theorem dX3_digestWithKeeper_28 : decode cX3_digestWithKeeper 28 = .ok (.lstore 4, 2) := by decide +kernel
theorem dX3_digestWithKeeper_30 : decode cX3_digestWithKeeper 30 = .ok (.iinc 6 1, 3) := by decide +kernel
theorem dX3_digestWithKeeper_33 : decode cX3_digestWithKeeper 33 = .ok (.goto (-27), 3) := by decide +kernel
theorem dX3_digestWithKeeper_36 : decode cX3_digestWithKeeper 36 = .ok (.aload_n 0, 1) := by decide +kernel
theorem dX3_digestWithKeeper_37 : decode cX3_digestWithKeeper 37 = .ok (.getfield 10, 3) := by decide +kernel
theorem dX3_digestWithKeeper_40 : decode cX3_digestWithKeeper 40 = .ok (.iload_n 3, 1) := by decide +kernel
theorem dX3_digestWithKeeper_41 : decode cX3_digestWithKeeper 41 = .ok (.invokevirtual 52, 3) := by decide +kernel
theorem dX3_digestWithKeeper_44 : decode cX3_digestWithKeeper 44 = .ok (.astore 6, 2) := by decide +kernel
theorem dX3_digestWithKeeper_46 : decode cX3_digestWithKeeper 46 = .ok (.iconst 0, 1) := by decide +kernel
theorem dX3_digestWithKeeper_47 : decode cX3_digestWithKeeper 47 = .ok (.istore 7, 2) := by decide +kernel
theorem dX3_digestWithKeeper_49 : decode cX3_digestWithKeeper 49 = .ok (.iload 7, 2) := by decide +kernel
theorem dX3_digestWithKeeper_51 : decode cX3_digestWithKeeper 51 = .ok (.aload 6, 2) := by decide +kernel
theorem dX3_digestWithKeeper_53 : decode cX3_digestWithKeeper 53 = .ok (.invokevirtual 56, 3) := by decide +kernel
theorem dX3_digestWithKeeper_56 : decode cX3_digestWithKeeper 56 = .ok (.if_icmp .ge 26, 3) := by decide +kernel
theorem dX3_digestWithKeeper_59 : decode cX3_digestWithKeeper 59 = .ok (.lload 4, 2) := by decide +kernel
theorem dX3_digestWithKeeper_61 : decode cX3_digestWithKeeper 61 = .ok (.ldc2_w 148, 3) := by decide +kernel
theorem dX3_digestWithKeeper_64 : decode cX3_digestWithKeeper 64 = .ok (.lmul, 1) := by decide +kernel
theorem dX3_digestWithKeeper_65 : decode cX3_digestWithKeeper 65 = .ok (.aload 6, 2) := by decide +kernel
theorem dX3_digestWithKeeper_67 : decode cX3_digestWithKeeper 67 = .ok (.iload 7, 2) := by decide +kernel
theorem dX3_digestWithKeeper_69 : decode cX3_digestWithKeeper 69 = .ok (.invokevirtual 82, 3) := by decide +kernel
theorem dX3_digestWithKeeper_72 : decode cX3_digestWithKeeper 72 = .ok (.i2l, 1) := by decide +kernel
theorem dX3_digestWithKeeper_73 : decode cX3_digestWithKeeper 73 = .ok (.ladd, 1) := by decide +kernel
theorem dX3_digestWithKeeper_74 : decode cX3_digestWithKeeper 74 = .ok (.lstore 4, 2) := by decide +kernel
theorem dX3_digestWithKeeper_76 : decode cX3_digestWithKeeper 76 = .ok (.iinc 7 1, 3) := by decide +kernel
theorem dX3_digestWithKeeper_79 : decode cX3_digestWithKeeper 79 = .ok (.goto (-30), 3) := by decide +kernel
theorem dX3_digestWithKeeper_82 : decode cX3_digestWithKeeper 82 = .ok (.lload 4, 2) := by decide +kernel
theorem dX3_digestWithKeeper_84 : decode cX3_digestWithKeeper 84 = .ok (.ldc2_w 148, 3) := by decide +kernel
theorem dX3_digestWithKeeper_87 : decode cX3_digestWithKeeper 87 = .ok (.lmul, 1) := by decide +kernel
theorem dX3_digestWithKeeper_88 : decode cX3_digestWithKeeper 88 = .ok (.aload_n 0, 1) := by decide +kernel
theorem dX3_digestWithKeeper_89 : decode cX3_digestWithKeeper 89 = .ok (.iload_n 3, 1) := by decide +kernel
theorem dX3_digestWithKeeper_90 : decode cX3_digestWithKeeper 90 = .ok (.iconst 1, 1) := by decide +kernel
theorem dX3_digestWithKeeper_91 : decode cX3_digestWithKeeper 91 = .ok (.invokevirtual 160, 3) := by decide +kernel
theorem dX3_digestWithKeeper_94 : decode cX3_digestWithKeeper 94 = .ok (.i2l, 1) := by decide +kernel
theorem dX3_digestWithKeeper_95 : decode cX3_digestWithKeeper 95 = .ok (.ladd, 1) := by decide +kernel
theorem dX3_digestWithKeeper_96 : decode cX3_digestWithKeeper 96 = .ok (.lreturn, 1) := by decide +kernel
set_option maxRecDepth 20000 in
theorem ggX3_rankOfGot_X2_hutFor : GoodIn wsX3_rankOfGot wsX2_hutFor := goodIn_r _ [7, 8, 9, 10, 11, 12, 13, 14, 15, 44, 45, 46, 47, 48, 49, 50, 51, 52, 53, 54] (by decide +kernel) (by decide +kernel)
set_option maxRecDepth 20000 in
theorem gX3_rankOfGot_X2_hutFor : GoodIn wsX3_rankOfGot (wsV RX3 88 RX2 yX2_hutFor wsX2_hutFor) := goodIn_app (goodIn_of _ (by decide +kernel)) ggX3_rankOfGot_X2_hutFor
set_option maxRecDepth 20000 in
theorem ggX3_rankOfGot_X0_rankOf : GoodIn wsX3_rankOfGot wsX0_rankOf := goodIn_r _ [20, 21, 22, 23, 19, 24, 25, 26, 27, 28, 29, 30, 31, 32, 10, 11, 12, 13, 14, 15, 33, 34, 35, 36, 37, 38, 39, 40, 55, 56, 57, 53, 54] (by decide +kernel) (by decide +kernel)
set_option maxRecDepth 20000 in
theorem gX3_rankOfGot_X0_rankOf : GoodIn wsX3_rankOfGot (wsV RX3 64 RX0 yX0_rankOf wsX0_rankOf) := goodIn_app (goodIn_of _ (by decide +kernel)) ggX3_rankOfGot_X0_rankOf
theorem dX3_rankOfGot_0 : decode cX3_rankOfGot 0 = .ok (.aload_n 0, 1) := by decide +kernel
theorem dX3_rankOfGot_1 : decode cX3_rankOfGot 1 = .ok (.getfield 10, 3) := by decide +kernel
theorem dX3_rankOfGot_4 : decode cX3_rankOfGot 4 = .ok (.iload_n 1, 1) := by decide +kernel
theorem dX3_rankOfGot_5 : decode cX3_rankOfGot 5 = .ok (.aload_n 0, 1) := by decide +kernel
theorem dX3_rankOfGot_6 : decode cX3_rankOfGot 6 = .ok (.getfield 21, 3) := by decide +kernel
theorem dX3_rankOfGot_9 : decode cX3_rankOfGot 9 = .ok (.iload_n 1, 1) := by decide +kernel
theorem dX3_rankOfGot_10 : decode cX3_rankOfGot 10 = .ok (.invokevirtual 88, 3) := by decide +kernel
theorem dX3_rankOfGot_13 : decode cX3_rankOfGot 13 = .ok (.invokevirtual 64, 3) := by decide +kernel
theorem dX3_rankOfGot_16 : decode cX3_rankOfGot 16 = .ok (.ireturn, 1) := by decide +kernel
set_option maxRecDepth 20000 in
theorem ggX3_hadRather_X0_rankOf : GoodIn wsX3_hadRather wsX0_rankOf := goodIn_r _ [6, 7, 8, 9, 5, 10, 11, 12, 13, 14, 15, 16, 17, 18, 19, 20, 21, 22, 23, 24, 25, 26, 27, 28, 29, 30, 31, 32, 49, 50, 51, 52, 53] (by decide +kernel) (by decide +kernel)
set_option maxRecDepth 20000 in
theorem gX3_hadRather_X0_rankOf : GoodIn wsX3_hadRather (wsV RX3 64 RX0 yX0_rankOf wsX0_rankOf) := goodIn_app (goodIn_of _ (by decide +kernel)) ggX3_hadRather_X0_rankOf
set_option maxRecDepth 20000 in
theorem ggX3_hadRather_X3_rankOfGot : GoodIn wsX3_hadRather wsX3_rankOfGot := goodIn_r _ [37, 1, 38, 39, 40, 41, 42, 43, 44, 45, 19, 20, 21, 22, 23, 24, 2, 3, 4, 5, 6, 7, 8, 9, 10, 11, 12, 13, 14, 15, 16, 17, 18, 25, 26, 27, 28, 29, 30, 31, 32, 46, 47, 48, 54, 55, 56, 57, 58, 59, 60, 61, 62, 52, 53, 49, 50, 51] (by decide +kernel) (by decide +kernel)
set_option maxRecDepth 20000 in
theorem gX3_hadRather_X3_rankOfGot : GoodIn wsX3_hadRather (wsV RX3 97 RX3 yX3_rankOfGot wsX3_rankOfGot) := goodIn_app (goodIn_of _ (by decide +kernel)) ggX3_hadRather_X3_rankOfGot
theorem dX3_hadRather_0 : decode cX3_hadRather 0 = .ok (.aload_n 0, 1) := by decide +kernel
theorem dX3_hadRather_1 : decode cX3_hadRather 1 = .ok (.getfield 10, 3) := by decide +kernel
theorem dX3_hadRather_4 : decode cX3_hadRather 4 = .ok (.iload_n 1, 1) := by decide +kernel
theorem dX3_hadRather_5 : decode cX3_hadRather 5 = .ok (.iload_n 2, 1) := by decide +kernel
theorem dX3_hadRather_6 : decode cX3_hadRather 6 = .ok (.invokevirtual 64, 3) := by decide +kernel
theorem dX3_hadRather_9 : decode cX3_hadRather 9 = .ok (.istore_n 3, 1) := by decide +kernel
theorem dX3_hadRather_10 : decode cX3_hadRather 10 = .ok (.iload_n 3, 1) := by decide +kernel
theorem dX3_hadRather_11 : decode cX3_hadRather 11 = .ok (.iconst (-1), 1) := by decide +kernel
theorem dX3_hadRather_12 : decode cX3_hadRather 12 = .ok (.if_icmp .eq 16, 3) := by decide +kernel
theorem dX3_hadRather_15 : decode cX3_hadRather 15 = .ok (.iload_n 3, 1) := by decide +kernel
theorem dX3_hadRather_16 : decode cX3_hadRather 16 = .ok (.aload_n 0, 1) := by decide +kernel
theorem dX3_hadRather_17 : decode cX3_hadRather 17 = .ok (.iload_n 1, 1) := by decide +kernel
theorem dX3_hadRather_18 : decode cX3_hadRather 18 = .ok (.invokevirtual 97, 3) := by decide +kernel
theorem dX3_hadRather_21 : decode cX3_hadRather 21 = .ok (.if_icmp .ge 7, 3) := by decide +kernel
theorem dX3_hadRather_24 : decode cX3_hadRather 24 = .ok (.iconst 1, 1) := by decide +kernel
theorem dX3_hadRather_25 : decode cX3_hadRather 25 = .ok (.goto 4, 3) := by decide +kernel
theorem dX3_hadRather_28 : decode cX3_hadRather 28 = .ok (.iconst 0, 1) := by decide +kernel
theorem dX3_hadRather_29 : decode cX3_hadRather 29 = .ok (.ireturn, 1) := by decide +kernel
set_option maxRecDepth 20000 in
theorem ggX3_keepersWithAnotherHut_X0_size : GoodIn wsX3_keepersWithAnotherHut wsX0_size := goodIn_r _ [7, 8, 9, 10, 11, 12, 13, 14, 34, 35, 36, 37, 38] (by decide +kernel) (by decide +kernel)
set_option maxRecDepth 20000 in
theorem gX3_keepersWithAnotherHut_X0_size : GoodIn wsX3_keepersWithAnotherHut (wsV RX3 28 RX0 yX0_size wsX0_size) := goodIn_app (goodIn_of _ (by decide +kernel)) ggX3_keepersWithAnotherHut_X0_size
set_option maxRecDepth 20000 in
theorem ggX3_keepersWithAnotherHut_X2_hutFor : GoodIn wsX3_keepersWithAnotherHut wsX2_hutFor := goodIn_r _ [19, 20, 21, 22, 23, 12, 24, 14, 25, 39, 40, 41, 42, 43, 44, 45, 46, 47, 37, 38] (by decide +kernel) (by decide +kernel)
set_option maxRecDepth 20000 in
theorem gX3_keepersWithAnotherHut_X2_hutFor : GoodIn wsX3_keepersWithAnotherHut (wsV RX3 88 RX2 yX2_hutFor wsX2_hutFor) := goodIn_app (goodIn_of _ (by decide +kernel)) ggX3_keepersWithAnotherHut_X2_hutFor
set_option maxRecDepth 20000 in
theorem ggX3_keepersWithAnotherHut_X0_hutOf : GoodIn wsX3_keepersWithAnotherHut wsX0_hutOf := goodIn_r _ [29, 8, 30, 22, 23, 12, 24, 14, 25, 34, 35, 36, 37, 38] (by decide +kernel) (by decide +kernel)
set_option maxRecDepth 20000 in
theorem gX3_keepersWithAnotherHut_X0_hutOf : GoodIn wsX3_keepersWithAnotherHut (wsV RX3 85 RX0 yX0_hutOf wsX0_hutOf) := goodIn_app (goodIn_of _ (by decide +kernel)) ggX3_keepersWithAnotherHut_X0_hutOf
theorem dX3_keepersWithAnotherHut_0 : decode cX3_keepersWithAnotherHut 0 = .ok (.iconst 0, 1) := by decide +kernel
theorem dX3_keepersWithAnotherHut_1 : decode cX3_keepersWithAnotherHut 1 = .ok (.istore_n 1, 1) := by decide +kernel
theorem dX3_keepersWithAnotherHut_2 : decode cX3_keepersWithAnotherHut 2 = .ok (.iconst 0, 1) := by decide +kernel
theorem dX3_keepersWithAnotherHut_3 : decode cX3_keepersWithAnotherHut 3 = .ok (.istore_n 2, 1) := by decide +kernel
theorem dX3_keepersWithAnotherHut_4 : decode cX3_keepersWithAnotherHut 4 = .ok (.iload_n 2, 1) := by decide +kernel
theorem dX3_keepersWithAnotherHut_5 : decode cX3_keepersWithAnotherHut 5 = .ok (.aload_n 0, 1) := by decide +kernel
theorem dX3_keepersWithAnotherHut_6 : decode cX3_keepersWithAnotherHut 6 = .ok (.getfield 10, 3) := by decide +kernel
theorem dX3_keepersWithAnotherHut_9 : decode cX3_keepersWithAnotherHut 9 = .ok (.invokevirtual 28, 3) := by decide +kernel
theorem dX3_keepersWithAnotherHut_12 : decode cX3_keepersWithAnotherHut 12 = .ok (.if_icmp .ge 31, 3) := by decide +kernel
theorem dX3_keepersWithAnotherHut_15 : decode cX3_keepersWithAnotherHut 15 = .ok (.aload_n 0, 1) := by decide +kernel
theorem dX3_keepersWithAnotherHut_16 : decode cX3_keepersWithAnotherHut 16 = .ok (.getfield 21, 3) := by decide +kernel
theorem dX3_keepersWithAnotherHut_19 : decode cX3_keepersWithAnotherHut 19 = .ok (.iload_n 2, 1) := by decide +kernel
theorem dX3_keepersWithAnotherHut_20 : decode cX3_keepersWithAnotherHut 20 = .ok (.invokevirtual 88, 3) := by decide +kernel
theorem dX3_keepersWithAnotherHut_23 : decode cX3_keepersWithAnotherHut 23 = .ok (.aload_n 0, 1) := by decide +kernel
theorem dX3_keepersWithAnotherHut_24 : decode cX3_keepersWithAnotherHut 24 = .ok (.getfield 10, 3) := by decide +kernel
theorem dX3_keepersWithAnotherHut_27 : decode cX3_keepersWithAnotherHut 27 = .ok (.iload_n 2, 1) := by decide +kernel
theorem dX3_keepersWithAnotherHut_28 : decode cX3_keepersWithAnotherHut 28 = .ok (.invokevirtual 85, 3) := by decide +kernel
theorem dX3_keepersWithAnotherHut_31 : decode cX3_keepersWithAnotherHut 31 = .ok (.if_icmp .eq 6, 3) := by decide +kernel
theorem dX3_keepersWithAnotherHut_34 : decode cX3_keepersWithAnotherHut 34 = .ok (.iinc 1 1, 3) := by decide +kernel
theorem dX3_keepersWithAnotherHut_37 : decode cX3_keepersWithAnotherHut 37 = .ok (.iinc 2 1, 3) := by decide +kernel
theorem dX3_keepersWithAnotherHut_40 : decode cX3_keepersWithAnotherHut 40 = .ok (.goto (-36), 3) := by decide +kernel
theorem dX3_keepersWithAnotherHut_43 : decode cX3_keepersWithAnotherHut 43 = .ok (.iload_n 1, 1) := by decide +kernel
theorem dX3_keepersWithAnotherHut_44 : decode cX3_keepersWithAnotherHut 44 = .ok (.ireturn, 1) := by decide +kernel
set_option maxRecDepth 20000 in
theorem ggX3_ranksAdded_X0_size : GoodIn wsX3_ranksAdded wsX0_size := goodIn_r _ [6, 7, 8, 9, 10, 11, 12, 13, 53, 54, 55, 56, 57] (by decide +kernel) (by decide +kernel)
set_option maxRecDepth 20000 in
theorem gX3_ranksAdded_X0_size : GoodIn wsX3_ranksAdded (wsV RX3 28 RX0 yX0_size wsX0_size) := goodIn_app (goodIn_of _ (by decide +kernel)) ggX3_ranksAdded_X0_size
set_option maxRecDepth 20000 in
theorem ggX3_ranksAdded_X3_rankOfGot : GoodIn wsX3_ranksAdded wsX3_rankOfGot := goodIn_r _ [18, 1, 19, 20, 21, 22, 23, 24, 25, 26, 27, 28, 11, 29, 13, 30, 31, 32, 33, 5, 34, 35, 36, 37, 38, 39, 40, 41, 42, 43, 44, 7, 45, 8, 9, 10, 12, 46, 47, 48, 49, 50, 51, 52, 58, 59, 60, 61, 62, 63, 64, 65, 66, 56, 57, 53, 54, 55] (by decide +kernel) (by decide +kernel)
set_option maxRecDepth 20000 in
theorem gX3_ranksAdded_X3_rankOfGot : GoodIn wsX3_ranksAdded (wsV RX3 97 RX3 yX3_rankOfGot wsX3_rankOfGot) := goodIn_app (goodIn_of _ (by decide +kernel)) ggX3_ranksAdded_X3_rankOfGot
theorem dX3_ranksAdded_0 : decode cX3_ranksAdded 0 = .ok (.iconst 0, 1) := by decide +kernel
theorem dX3_ranksAdded_1 : decode cX3_ranksAdded 1 = .ok (.istore_n 1, 1) := by decide +kernel
theorem dX3_ranksAdded_2 : decode cX3_ranksAdded 2 = .ok (.iconst 0, 1) := by decide +kernel
theorem dX3_ranksAdded_3 : decode cX3_ranksAdded 3 = .ok (.istore_n 2, 1) := by decide +kernel
theorem dX3_ranksAdded_4 : decode cX3_ranksAdded 4 = .ok (.iload_n 2, 1) := by decide +kernel
theorem dX3_ranksAdded_5 : decode cX3_ranksAdded 5 = .ok (.aload_n 0, 1) := by decide +kernel
theorem dX3_ranksAdded_6 : decode cX3_ranksAdded 6 = .ok (.getfield 10, 3) := by decide +kernel
theorem dX3_ranksAdded_9 : decode cX3_ranksAdded 9 = .ok (.invokevirtual 28, 3) := by decide +kernel
theorem dX3_ranksAdded_12 : decode cX3_ranksAdded 12 = .ok (.if_icmp .ge 17, 3) := by decide +kernel
theorem dX3_ranksAdded_15 : decode cX3_ranksAdded 15 = .ok (.iload_n 1, 1) := by decide +kernel
theorem dX3_ranksAdded_16 : decode cX3_ranksAdded 16 = .ok (.aload_n 0, 1) := by decide +kernel
theorem dX3_ranksAdded_17 : decode cX3_ranksAdded 17 = .ok (.iload_n 2, 1) := by decide +kernel
theorem dX3_ranksAdded_18 : decode cX3_ranksAdded 18 = .ok (.invokevirtual 97, 3) := by decide +kernel
theorem dX3_ranksAdded_21 : decode cX3_ranksAdded 21 = .ok (.iadd, 1) := by decide +kernel
theorem dX3_ranksAdded_22 : decode cX3_ranksAdded 22 = .ok (.istore_n 1, 1) := by decide +kernel
theorem dX3_ranksAdded_23 : decode cX3_ranksAdded 23 = .ok (.iinc 2 1, 3) := by decide +kernel
theorem dX3_ranksAdded_26 : decode cX3_ranksAdded 26 = .ok (.goto (-22), 3) := by decide +kernel
theorem dX3_ranksAdded_29 : decode cX3_ranksAdded 29 = .ok (.iload_n 1, 1) := by decide +kernel
theorem dX3_ranksAdded_30 : decode cX3_ranksAdded 30 = .ok (.ireturn, 1) := by decide +kernel
set_option maxRecDepth 20000 in
theorem ggX3_needKeeper_X0_size : GoodIn wsX3_needKeeper wsX0_size := goodIn_r _ [8, 9, 10, 11, 12, 13, 14, 15, 19, 20, 21, 22, 23] (by decide +kernel) (by decide +kernel)
set_option maxRecDepth 20000 in
theorem gX3_needKeeper_X0_size : GoodIn wsX3_needKeeper (wsV RX3 28 RX0 yX0_size wsX0_size) := goodIn_app (goodIn_of _ (by decide +kernel)) ggX3_needKeeper_X0_size
theorem dX3_needKeeper_0 : decode cX3_needKeeper 0 = .ok (.iload_n 1, 1) := by decide +kernel
theorem dX3_needKeeper_1 : decode cX3_needKeeper 1 = .ok (.ifCond .lt 14, 3) := by decide +kernel
theorem dX3_needKeeper_4 : decode cX3_needKeeper 4 = .ok (.iload_n 1, 1) := by decide +kernel
theorem dX3_needKeeper_5 : decode cX3_needKeeper 5 = .ok (.aload_n 0, 1) := by decide +kernel
theorem dX3_needKeeper_6 : decode cX3_needKeeper 6 = .ok (.getfield 10, 3) := by decide +kernel
theorem dX3_needKeeper_9 : decode cX3_needKeeper 9 = .ok (.invokevirtual 28, 3) := by decide +kernel
theorem dX3_needKeeper_12 : decode cX3_needKeeper 12 = .ok (.if_icmp .lt 13, 3) := by decide +kernel
theorem dX3_needKeeper_15 : decode cX3_needKeeper 15 = .ok (.new 59, 3) := by decide +kernel
theorem dX3_needKeeper_18 : decode cX3_needKeeper 18 = .ok (.dup, 1) := by decide +kernel
theorem dX3_needKeeper_19 : decode cX3_needKeeper 19 = .ok (.ldc 163, 2) := by decide +kernel
theorem dX3_needKeeper_21 : decode cX3_needKeeper 21 = .ok (.invokespecial 63, 3) := by decide +kernel
theorem dX3_needKeeper_24 : decode cX3_needKeeper 24 = .ok (.athrow, 1) := by decide +kernel
theorem dX3_needKeeper_25 : decode cX3_needKeeper 25 = .ok (.return_, 1) := by decide +kernel
set_option maxRecDepth 20000 in
theorem ggX3_needHut_X0_size : GoodIn wsX3_needHut wsX0_size := goodIn_r _ [8, 9, 10, 11, 12, 13, 14, 15, 19, 20, 21, 22, 23] (by decide +kernel) (by decide +kernel)
set_option maxRecDepth 20000 in
theorem gX3_needHut_X0_size : GoodIn wsX3_needHut (wsV RX3 28 RX0 yX0_size wsX0_size) := goodIn_app (goodIn_of _ (by decide +kernel)) ggX3_needHut_X0_size
theorem dX3_needHut_0 : decode cX3_needHut 0 = .ok (.iload_n 1, 1) := by decide +kernel
theorem dX3_needHut_1 : decode cX3_needHut 1 = .ok (.ifCond .lt 14, 3) := by decide +kernel
theorem dX3_needHut_4 : decode cX3_needHut 4 = .ok (.iload_n 1, 1) := by decide +kernel
theorem dX3_needHut_5 : decode cX3_needHut 5 = .ok (.aload_n 0, 1) := by decide +kernel
theorem dX3_needHut_6 : decode cX3_needHut 6 = .ok (.getfield 10, 3) := by decide +kernel
theorem dX3_needHut_9 : decode cX3_needHut 9 = .ok (.invokevirtual 28, 3) := by decide +kernel
theorem dX3_needHut_12 : decode cX3_needHut 12 = .ok (.if_icmp .lt 13, 3) := by decide +kernel
theorem dX3_needHut_15 : decode cX3_needHut 15 = .ok (.new 59, 3) := by decide +kernel
theorem dX3_needHut_18 : decode cX3_needHut 18 = .ok (.dup, 1) := by decide +kernel
theorem dX3_needHut_19 : decode cX3_needHut 19 = .ok (.ldc 165, 2) := by decide +kernel
theorem dX3_needHut_21 : decode cX3_needHut 21 = .ok (.invokespecial 63, 3) := by decide +kernel
theorem dX3_needHut_24 : decode cX3_needHut 24 = .ok (.athrow, 1) := by decide +kernel
theorem dX3_needHut_25 : decode cX3_needHut 25 = .ok (.return_, 1) := by decide +kernel
set_option maxRecDepth 20000 in
theorem ggX3_needPlace_X1_size : GoodIn wsX3_needPlace wsX1_size := goodIn_r _ [7, 8, 9, 10] (by decide +kernel) (by decide +kernel)
set_option maxRecDepth 20000 in
theorem gX3_needPlace_X1_size : GoodIn wsX3_needPlace (wsV RX3 56 RX1 yX1_size wsX1_size) := goodIn_app (goodIn_of _ (by decide +kernel)) ggX3_needPlace_X1_size
theorem dX3_needPlace_0 : decode cX3_needPlace 0 = .ok (.iload_n 1, 1) := by decide +kernel
theorem dX3_needPlace_1 : decode cX3_needPlace 1 = .ok (.ifCond .lt 11, 3) := by decide +kernel
theorem dX3_needPlace_4 : decode cX3_needPlace 4 = .ok (.iload_n 1, 1) := by decide +kernel
theorem dX3_needPlace_5 : decode cX3_needPlace 5 = .ok (.aload_n 0, 1) := by decide +kernel
theorem dX3_needPlace_6 : decode cX3_needPlace 6 = .ok (.invokevirtual 56, 3) := by decide +kernel
theorem dX3_needPlace_9 : decode cX3_needPlace 9 = .ok (.if_icmp .lt 13, 3) := by decide +kernel
theorem dX3_needPlace_12 : decode cX3_needPlace 12 = .ok (.new 59, 3) := by decide +kernel
theorem dX3_needPlace_15 : decode cX3_needPlace 15 = .ok (.dup, 1) := by decide +kernel
theorem dX3_needPlace_16 : decode cX3_needPlace 16 = .ok (.ldc 167, 2) := by decide +kernel
theorem dX3_needPlace_18 : decode cX3_needPlace 18 = .ok (.invokespecial 63, 3) := by decide +kernel
theorem dX3_needPlace_21 : decode cX3_needPlace 21 = .ok (.athrow, 1) := by decide +kernel
theorem dX3_needPlace_22 : decode cX3_needPlace 22 = .ok (.return_, 1) := by decide +kernel
theorem dX4_init_0 : decode cX4_init 0 = .ok (.aload_n 0, 1) := by decide +kernel
theorem dX4_init_1 : decode cX4_init 1 = .ok (.invokespecial 1, 3) := by decide +kernel
theorem dX4_init_4 : decode cX4_init 4 = .ok (.aload_n 0, 1) := by decide +kernel
theorem dX4_init_5 : decode cX4_init 5 = .ok (.bipush 10, 2) := by decide +kernel
theorem dX4_init_7 : decode cX4_init 7 = .ok (.newarray .int, 2) := by decide +kernel
theorem dX4_init_9 : decode cX4_init 9 = .ok (.putfield 9, 3) := by decide +kernel
theorem dX4_init_12 : decode cX4_init 12 = .ok (.aload_n 0, 1) := by decide +kernel
theorem dX4_init_13 : decode cX4_init 13 = .ok (.bipush 10, 2) := by decide +kernel
theorem dX4_init_15 : decode cX4_init 15 = .ok (.newarray .int, 2) := by decide +kernel
theorem dX4_init_17 : decode cX4_init 17 = .ok (.putfield 13, 3) := by decide +kernel
theorem dX4_init_20 : decode cX4_init 20 = .ok (.aload_n 0, 1) := by decide +kernel
theorem dX4_init_21 : decode cX4_init 21 = .ok (.bipush 100, 2) := by decide +kernel
theorem dX4_init_23 : decode cX4_init 23 = .ok (.newarray .int, 2) := by decide +kernel
theorem dX4_init_25 : decode cX4_init 25 = .ok (.putfield 16, 3) := by decide +kernel
theorem dX4_init_28 : decode cX4_init 28 = .ok (.aload_n 0, 1) := by decide +kernel
theorem dX4_init_29 : decode cX4_init 29 = .ok (.bipush 10, 2) := by decide +kernel
theorem dX4_init_31 : decode cX4_init 31 = .ok (.newarray .int, 2) := by decide +kernel
theorem dX4_init_33 : decode cX4_init 33 = .ok (.putfield 19, 3) := by decide +kernel
theorem dX4_init_36 : decode cX4_init 36 = .ok (.aload_n 0, 1) := by decide +kernel
theorem dX4_init_37 : decode cX4_init 37 = .ok (.bipush 10, 2) := by decide +kernel
theorem dX4_init_39 : decode cX4_init 39 = .ok (.newarray .int, 2) := by decide +kernel
theorem dX4_init_41 : decode cX4_init 41 = .ok (.putfield 22, 3) := by decide +kernel
theorem dX4_init_44 : decode cX4_init 44 = .ok (.aload_n 0, 1) := by decide +kernel
theorem dX4_init_45 : decode cX4_init 45 = .ok (.bipush 10, 2) := by decide +kernel
theorem dX4_init_47 : decode cX4_init 47 = .ok (.newarray .int, 2) := by decide +kernel
theorem dX4_init_49 : decode cX4_init 49 = .ok (.putfield 25, 3) := by decide +kernel
theorem dX4_init_52 : decode cX4_init 52 = .ok (.aload_n 0, 1) := by decide +kernel
theorem dX4_init_53 : decode cX4_init 53 = .ok (.bipush 10, 2) := by decide +kernel
theorem dX4_init_55 : decode cX4_init 55 = .ok (.newarray .int, 2) := by decide +kernel
theorem dX4_init_57 : decode cX4_init 57 = .ok (.putfield 28, 3) := by decide +kernel
theorem dX4_init_60 : decode cX4_init 60 = .ok (.aload_n 0, 1) := by decide +kernel
theorem dX4_init_61 : decode cX4_init 61 = .ok (.bipush 10, 2) := by decide +kernel
theorem dX4_init_63 : decode cX4_init 63 = .ok (.newarray .boolean, 2) := by decide +kernel
theorem dX4_init_65 : decode cX4_init 65 = .ok (.putfield 31, 3) := by decide +kernel
theorem dX4_init_68 : decode cX4_init 68 = .ok (.aload_n 0, 1) := by decide +kernel
theorem dX4_init_69 : decode cX4_init 69 = .ok (.iconst (-1), 1) := by decide +kernel
theorem dX4_init_70 : decode cX4_init 70 = .ok (.putfield 35, 3) := by decide +kernel
theorem dX4_init_73 : decode cX4_init 73 = .ok (.aload_n 0, 1) := by decide +kernel
theorem dX4_init_74 : decode cX4_init 74 = .ok (.iconst (-1), 1) := by decide +kernel
theorem dX4_init_75 : decode cX4_init 75 = .ok (.putfield 39, 3) := by decide +kernel
theorem dX4_init_78 : decode cX4_init 78 = .ok (.aload_n 0, 1) := by decide +kernel
theorem dX4_init_79 : decode cX4_init 79 = .ok (.iconst (-1), 1) := by decide +kernel
theorem dX4_init_80 : decode cX4_init 80 = .ok (.putfield 42, 3) := by decide +kernel
theorem dX4_init_83 : decode cX4_init 83 = .ok (.return_, 1) := by decide +kernel
theorem dX4_thrown_0 : decode cX4_thrown 0 = .ok (.aload_n 0, 1) := by decide +kernel
theorem dX4_thrown_1 : decode cX4_thrown 1 = .ok (.getfield 45, 3) := by decide +kernel
theorem dX4_thrown_4 : decode cX4_thrown 4 = .ok (.ireturn, 1) := by decide +kernel
theorem dX4_fail_0 : decode cX4_fail 0 = .ok (.aload_n 0, 1) := by decide +kernel
theorem dX4_fail_1 : decode cX4_fail 1 = .ok (.iload_n 1, 1) := by decide +kernel
theorem dX4_fail_2 : decode cX4_fail 2 = .ok (.putfield 45, 3) := by decide +kernel
theorem dX4_fail_5 : decode cX4_fail 5 = .ok (.iconst 0, 1) := by decide +kernel
theorem dX4_fail_6 : decode cX4_fail 6 = .ok (.ireturn, 1) := by decide +kernel
theorem dX4_isIn_0 : decode cX4_isIn 0 = .ok (.iload_n 0, 1) := by decide +kernel
theorem dX4_isIn_1 : decode cX4_isIn 1 = .ok (.iload_n 1, 1) := by decide +kernel
theorem dX4_isIn_2 : decode cX4_isIn 2 = .ok (.if_icmp .lt 12, 3) := by decide +kernel
theorem dX4_isIn_5 : decode cX4_isIn 5 = .ok (.iload_n 0, 1) := by decide +kernel
theorem dX4_isIn_6 : decode cX4_isIn 6 = .ok (.iload_n 2, 1) := by decide +kernel
theorem dX4_isIn_7 : decode cX4_isIn 7 = .ok (.if_icmp .gt 7, 3) := by decide +kernel
theorem dX4_isIn_10 : decode cX4_isIn 10 = .ok (.iconst 1, 1) := by decide +kernel
theorem dX4_isIn_11 : decode cX4_isIn 11 = .ok (.goto 4, 3) := by decide +kernel
theorem dX4_isIn_14 : decode cX4_isIn 14 = .ok (.iconst 0, 1) := by decide +kernel
theorem dX4_isIn_15 : decode cX4_isIn 15 = .ok (.ireturn, 1) := by decide +kernel
set_option maxRecDepth 20000 in
theorem ggX4_isKeeper_X4_isIn : GoodIn wsX4_isKeeper wsX4_isIn := goodIn_r _ [5] (by decide +kernel) (by decide +kernel)
set_option maxRecDepth 20000 in
theorem gX4_isKeeper_X4_isIn : GoodIn wsX4_isKeeper (va_wsS RX4 51 yX4_isIn wsX4_isIn) := goodIn_app (goodIn_of _ (by decide +kernel)) ggX4_isKeeper_X4_isIn
theorem dX4_isKeeper_0 : decode cX4_isKeeper 0 = .ok (.iload_n 1, 1) := by decide +kernel
theorem dX4_isKeeper_1 : decode cX4_isKeeper 1 = .ok (.iconst 0, 1) := by decide +kernel
theorem dX4_isKeeper_2 : decode cX4_isKeeper 2 = .ok (.aload_n 0, 1) := by decide +kernel
theorem dX4_isKeeper_3 : decode cX4_isKeeper 3 = .ok (.getfield 48, 3) := by decide +kernel
theorem dX4_isKeeper_6 : decode cX4_isKeeper 6 = .ok (.iconst 1, 1) := by decide +kernel
theorem dX4_isKeeper_7 : decode cX4_isKeeper 7 = .ok (.isub, 1) := by decide +kernel
theorem dX4_isKeeper_8 : decode cX4_isKeeper 8 = .ok (.invokestatic 51, 3) := by decide +kernel
theorem dX4_isKeeper_11 : decode cX4_isKeeper 11 = .ok (.ireturn, 1) := by decide +kernel
theorem dX4_li_0 : decode cX4_li 0 = .ok (.aload_n 0, 1) := by decide +kernel
theorem dX4_li_1 : decode cX4_li 1 = .ok (.getfield 16, 3) := by decide +kernel
theorem dX4_li_4 : decode cX4_li 4 = .ok (.bipush 10, 2) := by decide +kernel
theorem dX4_li_6 : decode cX4_li 6 = .ok (.iload_n 1, 1) := by decide +kernel
theorem dX4_li_7 : decode cX4_li 7 = .ok (.imul, 1) := by decide +kernel
theorem dX4_li_8 : decode cX4_li 8 = .ok (.iload_n 2, 1) := by decide +kernel
theorem dX4_li_9 : decode cX4_li 9 = .ok (.iadd, 1) := by decide +kernel
theorem dX4_li_10 : decode cX4_li 10 = .ok (.iaload, 1) := by decide +kernel
theorem dX4_li_11 : decode cX4_li 11 = .ok (.ireturn, 1) := by decide +kernel
set_option maxRecDepth 20000 in
theorem ggX4_come_X4_fail : GoodIn wsX4_come wsX4_fail := goodIn_r _ [8, 1, 9, 10, 11, 12, 13, 14, 15, 16, 17, 18, 19, 20, 21, 22, 23, 24] (by decide +kernel) (by decide +kernel)
set_option maxRecDepth 20000 in
theorem gX4_come_X4_fail : GoodIn wsX4_come (wsV RX4 55 RX4 yX4_fail wsX4_fail) := goodIn_app (goodIn_of _ (by decide +kernel)) ggX4_come_X4_fail
theorem dX4_come_0 : decode cX4_come 0 = .ok (.aload_n 0, 1) := by decide +kernel
theorem dX4_come_1 : decode cX4_come 1 = .ok (.iconst 0, 1) := by decide +kernel
theorem dX4_come_2 : decode cX4_come 2 = .ok (.putfield 45, 3) := by decide +kernel
theorem dX4_come_5 : decode cX4_come 5 = .ok (.aload_n 0, 1) := by decide +kernel
theorem dX4_come_6 : decode cX4_come 6 = .ok (.getfield 48, 3) := by decide +kernel
theorem dX4_come_9 : decode cX4_come 9 = .ok (.bipush 10, 2) := by decide +kernel
theorem dX4_come_11 : decode cX4_come 11 = .ok (.if_icmp .ne 9, 3) := by decide +kernel
theorem dX4_come_14 : decode cX4_come 14 = .ok (.aload_n 0, 1) := by decide +kernel
theorem dX4_come_15 : decode cX4_come 15 = .ok (.iconst 1, 1) := by decide +kernel
theorem dX4_come_16 : decode cX4_come 16 = .ok (.invokevirtual 55, 3) := by decide +kernel
theorem dX4_come_19 : decode cX4_come 19 = .ok (.ireturn, 1) := by decide +kernel
theorem dX4_come_20 : decode cX4_come 20 = .ok (.aload_n 0, 1) := by decide +kernel
theorem dX4_come_21 : decode cX4_come 21 = .ok (.getfield 9, 3) := by decide +kernel
theorem dX4_come_24 : decode cX4_come 24 = .ok (.aload_n 0, 1) := by decide +kernel
theorem dX4_come_25 : decode cX4_come 25 = .ok (.getfield 48, 3) := by decide +kernel
theorem dX4_come_28 : decode cX4_come 28 = .ok (.aload_n 0, 1) := by decide +kernel
theorem dX4_come_29 : decode cX4_come 29 = .ok (.getfield 48, 3) := by decide +kernel
theorem dX4_come_32 : decode cX4_come 32 = .ok (.iastore, 1) := by decide +kernel
theorem dX4_come_33 : decode cX4_come 33 = .ok (.aload_n 0, 1) := by decide +kernel
theorem dX4_come_34 : decode cX4_come 34 = .ok (.dup, 1) := by decide +kernel
theorem dX4_come_35 : decode cX4_come 35 = .ok (.getfield 48, 3) := by decide +kernel
theorem dX4_come_38 : decode cX4_come 38 = .ok (.iconst 1, 1) := by decide +kernel
theorem dX4_come_39 : decode cX4_come 39 = .ok (.iadd, 1) := by decide +kernel
theorem dX4_come_40 : decode cX4_come 40 = .ok (.putfield 48, 3) := by decide +kernel
theorem dX4_come_43 : decode cX4_come 43 = .ok (.aload_n 0, 1) := by decide +kernel
theorem dX4_come_44 : decode cX4_come 44 = .ok (.getfield 48, 3) := by decide +kernel
theorem dX4_come_47 : decode cX4_come 47 = .ok (.iconst 1, 1) := by decide +kernel
theorem dX4_come_48 : decode cX4_come 48 = .ok (.isub, 1) := by decide +kernel
theorem dX4_come_49 : decode cX4_come 49 = .ok (.ireturn, 1) := by decide +kernel
set_option maxRecDepth 20000 in
theorem ggX4_placeOf_X4_li : GoodIn wsX4_placeOf wsX4_li := goodIn_r _ [6, 7, 8, 9, 10, 11, 12, 13, 14, 15, 16, 17, 18, 19, 20, 21, 22, 23] (by decide +kernel) (by decide +kernel)
set_option maxRecDepth 20000 in
theorem gX4_placeOf_X4_li : GoodIn wsX4_placeOf (wsV RX4 59 RX4 yX4_li wsX4_li) := goodIn_app (goodIn_of _ (by decide +kernel)) ggX4_placeOf_X4_li
theorem dX4_placeOf_0 : decode cX4_placeOf 0 = .ok (.iconst 0, 1) := by decide +kernel
theorem dX4_placeOf_1 : decode cX4_placeOf 1 = .ok (.istore_n 3, 1) := by decide +kernel
theorem dX4_placeOf_2 : decode cX4_placeOf 2 = .ok (.iload_n 3, 1) := by decide +kernel
theorem dX4_placeOf_3 : decode cX4_placeOf 3 = .ok (.aload_n 0, 1) := by decide +kernel
theorem dX4_placeOf_4 : decode cX4_placeOf 4 = .ok (.getfield 13, 3) := by decide +kernel
theorem dX4_placeOf_7 : decode cX4_placeOf 7 = .ok (.iload_n 1, 1) := by decide +kernel
theorem dX4_placeOf_8 : decode cX4_placeOf 8 = .ok (.iaload, 1) := by decide +kernel
theorem dX4_placeOf_9 : decode cX4_placeOf 9 = .ok (.if_icmp .ge 21, 3) := by decide +kernel
theorem dX4_placeOf_12 : decode cX4_placeOf 12 = .ok (.aload_n 0, 1) := by decide +kernel
theorem dX4_placeOf_13 : decode cX4_placeOf 13 = .ok (.iload_n 1, 1) := by decide +kernel
theorem dX4_placeOf_14 : decode cX4_placeOf 14 = .ok (.iload_n 3, 1) := by decide +kernel
theorem dX4_placeOf_15 : decode cX4_placeOf 15 = .ok (.invokevirtual 59, 3) := by decide +kernel
theorem dX4_placeOf_18 : decode cX4_placeOf 18 = .ok (.iload_n 2, 1) := by decide +kernel
theorem dX4_placeOf_19 : decode cX4_placeOf 19 = .ok (.if_icmp .ne 5, 3) := by decide +kernel
theorem dX4_placeOf_22 : decode cX4_placeOf 22 = .ok (.iload_n 3, 1) := by decide +kernel
theorem dX4_placeOf_23 : decode cX4_placeOf 23 = .ok (.ireturn, 1) := by decide +kernel
theorem dX4_placeOf_24 : decode cX4_placeOf 24 = .ok (.iinc 3 1, 3) := by decide +kernel
theorem dX4_placeOf_27 : decode cX4_placeOf 27 = .ok (.goto (-25), 3) := by decide +kernel
theorem dX4_placeOf_30 : decode cX4_placeOf 30 = .ok (.iconst (-1), 1) := by decide +kernel
theorem dX4_placeOf_31 : decode cX4_placeOf 31 = .ok (.ireturn, 1) := by decide +kernel
set_option maxRecDepth 20000 in
theorem ggX4_wish_X4_isKeeper : GoodIn wsX4_wish wsX4_isKeeper := goodIn_r _ [9, 10, 11, 12, 8, 13, 26, 27, 28, 29, 30, 31, 32, 33, 34, 35, 36, 37, 38, 39, 40, 41] (by decide +kernel) (by decide +kernel)
set_option maxRecDepth 20000 in
theorem gX4_wish_X4_isKeeper : GoodIn wsX4_wish (wsV RX4 63 RX4 yX4_isKeeper wsX4_isKeeper) := goodIn_app (goodIn_of _ (by decide +kernel)) ggX4_wish_X4_isKeeper
set_option maxRecDepth 20000 in
theorem ggX4_wish_X4_isIn : GoodIn wsX4_wish wsX4_isIn := goodIn_r _ [13] (by decide +kernel) (by decide +kernel)
set_option maxRecDepth 20000 in
theorem gX4_wish_X4_isIn : GoodIn wsX4_wish (va_wsS RX4 51 yX4_isIn wsX4_isIn) := goodIn_app (goodIn_of _ (by decide +kernel)) ggX4_wish_X4_isIn
set_option maxRecDepth 20000 in
theorem ggX4_wish_X4_fail : GoodIn wsX4_wish wsX4_fail := goodIn_r _ [17, 1, 26, 27, 28, 29, 30, 31, 32, 33, 34, 35, 36, 37, 38, 39, 40, 41] (by decide +kernel) (by decide +kernel)
set_option maxRecDepth 20000 in
theorem gX4_wish_X4_fail : GoodIn wsX4_wish (wsV RX4 55 RX4 yX4_fail wsX4_fail) := goodIn_app (goodIn_of _ (by decide +kernel)) ggX4_wish_X4_fail
set_option maxRecDepth 20000 in
theorem ggX4_wish_X4_placeOf : GoodIn wsX4_wish wsX4_placeOf := goodIn_r _ [21, 2, 22, 23, 24, 8, 25, 4, 26, 27, 28, 29, 30, 31, 32, 33, 34, 35, 36, 37, 38, 39, 40, 41] (by decide +kernel) (by decide +kernel)
set_option maxRecDepth 20000 in
theorem gX4_wish_X4_placeOf : GoodIn wsX4_wish (wsV RX4 67 RX4 yX4_placeOf wsX4_placeOf) := goodIn_app (goodIn_of _ (by decide +kernel)) ggX4_wish_X4_placeOf
set_option maxRecDepth 20000 in
theorem ggX4_wish_X4_li : GoodIn wsX4_wish wsX4_li := goodIn_r _ [25, 4, 26, 27, 28, 29, 30, 31, 32, 33, 34, 35, 36, 37, 38, 39, 40, 41] (by decide +kernel) (by decide +kernel)
set_option maxRecDepth 20000 in
theorem gX4_wish_X4_li : GoodIn wsX4_wish (wsV RX4 59 RX4 yX4_li wsX4_li) := goodIn_app (goodIn_of _ (by decide +kernel)) ggX4_wish_X4_li
theorem dX4_wish_0 : decode cX4_wish 0 = .ok (.aload_n 0, 1) := by decide +kernel
theorem dX4_wish_1 : decode cX4_wish 1 = .ok (.iconst 0, 1) := by decide +kernel
theorem dX4_wish_2 : decode cX4_wish 2 = .ok (.putfield 45, 3) := by decide +kernel
theorem dX4_wish_5 : decode cX4_wish 5 = .ok (.aload_n 0, 1) := by decide +kernel
theorem dX4_wish_6 : decode cX4_wish 6 = .ok (.iload_n 1, 1) := by decide +kernel
theorem dX4_wish_7 : decode cX4_wish 7 = .ok (.invokevirtual 63, 3) := by decide +kernel
theorem dX4_wish_10 : decode cX4_wish 10 = .ok (.ifCond .eq 25, 3) := by decide +kernel
theorem dX4_wish_13 : decode cX4_wish 13 = .ok (.aload_n 0, 1) := by decide +kernel
theorem dX4_wish_14 : decode cX4_wish 14 = .ok (.iload_n 3, 1) := by decide +kernel
theorem dX4_wish_15 : decode cX4_wish 15 = .ok (.invokevirtual 63, 3) := by decide +kernel
theorem dX4_wish_18 : decode cX4_wish 18 = .ok (.ifCond .eq 17, 3) := by decide +kernel
theorem dX4_wish_21 : decode cX4_wish 21 = .ok (.iload_n 2, 1) := by decide +kernel
theorem dX4_wish_22 : decode cX4_wish 22 = .ok (.iconst 0, 1) := by decide +kernel
theorem dX4_wish_23 : decode cX4_wish 23 = .ok (.aload_n 0, 1) := by decide +kernel
theorem dX4_wish_24 : decode cX4_wish 24 = .ok (.getfield 13, 3) := by decide +kernel
theorem dX4_wish_27 : decode cX4_wish 27 = .ok (.iload_n 1, 1) := by decide +kernel
theorem dX4_wish_28 : decode cX4_wish 28 = .ok (.iaload, 1) := by decide +kernel
theorem dX4_wish_29 : decode cX4_wish 29 = .ok (.invokestatic 51, 3) := by decide +kernel
theorem dX4_wish_32 : decode cX4_wish 32 = .ok (.ifCond .ne 9, 3) := by decide +kernel
theorem dX4_wish_35 : decode cX4_wish 35 = .ok (.aload_n 0, 1) := by decide +kernel
theorem dX4_wish_36 : decode cX4_wish 36 = .ok (.iconst 1, 1) := by decide +kernel
theorem dX4_wish_37 : decode cX4_wish 37 = .ok (.invokevirtual 55, 3) := by decide +kernel
theorem dX4_wish_40 : decode cX4_wish 40 = .ok (.ireturn, 1) := by decide +kernel
theorem dX4_wish_41 : decode cX4_wish 41 = .ok (.aload_n 0, 1) := by decide +kernel
theorem dX4_wish_42 : decode cX4_wish 42 = .ok (.getfield 9, 3) := by decide +kernel
theorem dX4_wish_45 : decode cX4_wish 45 = .ok (.iload_n 1, 1) := by decide +kernel
theorem dX4_wish_46 : decode cX4_wish 46 = .ok (.iaload, 1) := by decide +kernel
theorem dX4_wish_47 : decode cX4_wish 47 = .ok (.iload_n 3, 1) := by decide +kernel
theorem dX4_wish_48 : decode cX4_wish 48 = .ok (.if_icmp .eq 13, 3) := by decide +kernel
theorem dX4_wish_51 : decode cX4_wish 51 = .ok (.aload_n 0, 1) := by decide +kernel
theorem dX4_wish_52 : decode cX4_wish 52 = .ok (.iload_n 1, 1) := by decide +kernel
theorem dX4_wish_53 : decode cX4_wish 53 = .ok (.iload_n 3, 1) := by decide +kernel
theorem dX4_wish_54 : decode cX4_wish 54 = .ok (.invokevirtual 67, 3) := by decide +kernel
theorem dX4_wish_57 : decode cX4_wish 57 = .ok (.iconst (-1), 1) := by decide +kernel
theorem dX4_wish_58 : decode cX4_wish 58 = .ok (.if_icmp .eq 9, 3) := by decide +kernel
theorem dX4_wish_61 : decode cX4_wish 61 = .ok (.aload_n 0, 1) := by decide +kernel
theorem dX4_wish_62 : decode cX4_wish 62 = .ok (.iconst 2, 1) := by decide +kernel
theorem dX4_wish_63 : decode cX4_wish 63 = .ok (.invokevirtual 55, 3) := by decide +kernel
theorem dX4_wish_66 : decode cX4_wish 66 = .ok (.ireturn, 1) := by decide +kernel
theorem dX4_wish_67 : decode cX4_wish 67 = .ok (.aload_n 0, 1) := by decide +kernel
theorem dX4_wish_68 : decode cX4_wish 68 = .ok (.getfield 13, 3) := by decide +kernel
theorem dX4_wish_71 : decode cX4_wish 71 = .ok (.iload_n 1, 1) := by decide +kernel
theorem dX4_wish_72 : decode cX4_wish 72 = .ok (.iaload, 1) := by decide +kernel
theorem dX4_wish_73 : decode cX4_wish 73 = .ok (.istore 4, 2) := by decide +kernel
theorem dX4_wish_75 : decode cX4_wish 75 = .ok (.iload 4, 2) := by decide +kernel
theorem dX4_wish_77 : decode cX4_wish 77 = .ok (.iload_n 2, 1) := by decide +kernel
theorem dX4_wish_78 : decode cX4_wish 78 = .ok (.if_icmp .le 30, 3) := by decide +kernel
theorem dX4_wish_81 : decode cX4_wish 81 = .ok (.aload_n 0, 1) := by decide +kernel
theorem dX4_wish_82 : decode cX4_wish 82 = .ok (.getfield 16, 3) := by decide +kernel
theorem dX4_wish_85 : decode cX4_wish 85 = .ok (.bipush 10, 2) := by decide +kernel
theorem dX4_wish_87 : decode cX4_wish 87 = .ok (.iload_n 1, 1) := by decide +kernel
theorem dX4_wish_88 : decode cX4_wish 88 = .ok (.imul, 1) := by decide +kernel
theorem dX4_wish_89 : decode cX4_wish 89 = .ok (.iload 4, 2) := by decide +kernel
theorem dX4_wish_91 : decode cX4_wish 91 = .ok (.iadd, 1) := by decide +kernel
theorem dX4_wish_92 : decode cX4_wish 92 = .ok (.aload_n 0, 1) := by decide +kernel
theorem dX4_wish_93 : decode cX4_wish 93 = .ok (.iload_n 1, 1) := by decide +kernel
theorem dX4_wish_94 : decode cX4_wish 94 = .ok (.iload 4, 2) := by decide +kernel
theorem dX4_wish_96 : decode cX4_wish 96 = .ok (.iconst 1, 1) := by decide +kernel
theorem dX4_wish_97 : decode cX4_wish 97 = .ok (.isub, 1) := by decide +kernel
theorem dX4_wish_98 : decode cX4_wish 98 = .ok (.invokevirtual 59, 3) := by decide +kernel
theorem dX4_wish_101 : decode cX4_wish 101 = .ok (.iastore, 1) := by decide +kernel
theorem dX4_wish_102 : decode cX4_wish 102 = .ok (.iinc 4 (-1), 3) := by decide +kernel
theorem dX4_wish_105 : decode cX4_wish 105 = .ok (.goto (-30), 3) := by decide +kernel
theorem dX4_wish_108 : decode cX4_wish 108 = .ok (.aload_n 0, 1) := by decide +kernel
theorem dX4_wish_109 : decode cX4_wish 109 = .ok (.getfield 16, 3) := by decide +kernel
theorem dX4_wish_112 : decode cX4_wish 112 = .ok (.bipush 10, 2) := by decide +kernel
theorem dX4_wish_114 : decode cX4_wish 114 = .ok (.iload_n 1, 1) := by decide +kernel
theorem dX4_wish_115 : decode cX4_wish 115 = .ok (.imul, 1) := by decide +kernel
theorem dX4_wish_116 : decode cX4_wish 116 = .ok (.iload_n 2, 1) := by decide +kernel
theorem dX4_wish_117 : decode cX4_wish 117 = .ok (.iadd, 1) := by decide +kernel
theorem dX4_wish_118 : decode cX4_wish 118 = .ok (.iload_n 3, 1) := by decide +kernel
theorem dX4_wish_119 : decode cX4_wish 119 = .ok (.iastore, 1) := by decide +kernel
theorem dX4_wish_120 : decode cX4_wish 120 = .ok (.aload_n 0, 1) := by decide +kernel
theorem dX4_wish_121 : decode cX4_wish 121 = .ok (.getfield 13, 3) := by decide +kernel
theorem dX4_wish_124 : decode cX4_wish 124 = .ok (.iload_n 1, 1) := by decide +kernel
theorem dX4_wish_125 : decode cX4_wish 125 = .ok (.dup2, 1) := by decide +kernel
theorem dX4_wish_126 : decode cX4_wish 126 = .ok (.iaload, 1) := by decide +kernel
theorem dX4_wish_127 : decode cX4_wish 127 = .ok (.iconst 1, 1) := by decide +kernel
theorem dX4_wish_128 : decode cX4_wish 128 = .ok (.iadd, 1) := by decide +kernel
theorem dX4_wish_129 : decode cX4_wish 129 = .ok (.iastore, 1) := by decide +kernel
theorem dX4_wish_130 : decode cX4_wish 130 = .ok (.aload_n 0, 1) := by decide +kernel
theorem dX4_wish_131 : decode cX4_wish 131 = .ok (.getfield 13, 3) := by decide +kernel
theorem dX4_wish_134 : decode cX4_wish 134 = .ok (.iload_n 1, 1) := by decide +kernel
theorem dX4_wish_135 : decode cX4_wish 135 = .ok (.iaload, 1) := by decide +kernel
theorem dX4_wish_136 : decode cX4_wish 136 = .ok (.ireturn, 1) := by decide +kernel
set_option maxRecDepth 20000 in
theorem ggX4_drop_X4_isKeeper : GoodIn wsX4_drop wsX4_isKeeper := goodIn_r _ [8, 9, 10, 11, 7, 12, 21, 22, 23, 24, 25, 26, 27, 28, 29, 30, 31, 32, 33, 34, 35, 36] (by decide +kernel) (by decide +kernel)
set_option maxRecDepth 20000 in
theorem gX4_drop_X4_isKeeper : GoodIn wsX4_drop (wsV RX4 63 RX4 yX4_isKeeper wsX4_isKeeper) := goodIn_app (goodIn_of _ (by decide +kernel)) ggX4_drop_X4_isKeeper
set_option maxRecDepth 20000 in
theorem ggX4_drop_X4_isIn : GoodIn wsX4_drop wsX4_isIn := goodIn_r _ [12] (by decide +kernel) (by decide +kernel)
