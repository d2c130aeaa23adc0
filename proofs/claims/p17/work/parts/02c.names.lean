theorem wsL_law_x0 : ∀ w ∈ (vx_atS RX3 36 "java/lang/IllegalStateException" ["java/lang/RuntimeException", "java/lang/Exception"]).filter goodWord, w ∈ lw_tbl := by decide +kernel
theorem wsL_law_x1 : ∀ w ∈ (vx_atS RX3 63 "java/lang/IndexOutOfBoundsException" ["java/lang/RuntimeException", "java/lang/Exception"]).filter goodWord, w ∈ lw_tbl := by decide +kernel
theorem wsL_law_x2 : ∀ w ∈ (vx_atS RX3 106 "java/lang/IllegalArgumentException" ["java/lang/RuntimeException", "java/lang/Exception"]).filter goodWord, w ∈ lw_tbl := by decide +kernel
theorem wsL_law_in : ∀ w ∈ wsL_law, w ∈ lw_tbl := fun w h => (List.mem_append.mp h).elim (fun h => (List.mem_append.mp h).elim (fun h => (List.mem_append.mp h).elim (fun h => wsL_law_in0 w h) (fun h => wsL_law_x0 w h)) (fun h => wsL_law_x1 w h)) (fun h => wsL_law_x2 w h)
theorem inlX0 : ∀ w ∈ wsX00, w ∈ wsL_law := fun _ h => List.mem_append_left _ (List.mem_append_left _ (List.mem_append_left _ (List.mem_append_left _ (List.mem_append_left _ (List.mem_append_left _ (List.mem_append_left _ (List.mem_append_right _ h)))))))
theorem inX0 : ∀ w ∈ wsX00, w ∈ lw_tbl := fun w h => wsL_law_in w (inlX0 w h)
theorem inlX1 : ∀ w ∈ wsX10, w ∈ wsL_law := fun _ h => List.mem_append_left _ (List.mem_append_left _ (List.mem_append_left _ (List.mem_append_left _ (List.mem_append_left _ (List.mem_append_right _ h)))))
theorem inX1 : ∀ w ∈ wsX10, w ∈ lw_tbl := fun w h => wsL_law_in w (inlX1 w h)
theorem inlX2 : ∀ w ∈ wsX20, w ∈ wsL_law := fun _ h => List.mem_append_left _ (List.mem_append_left _ (List.mem_append_left _ (List.mem_append_left _ (List.mem_append_left _ (List.mem_append_left _ (List.mem_append_right _ h))))))
theorem inX2 : ∀ w ∈ wsX20, w ∈ lw_tbl := fun w h => wsL_law_in w (inlX2 w h)
theorem inlX3 : ∀ w ∈ wsX30, w ∈ wsL_law := fun _ h => List.mem_append_left _ (List.mem_append_left _ (List.mem_append_left _ (List.mem_append_left _ (List.mem_append_left _ (List.mem_append_left _ (List.mem_append_left _ (List.mem_append_left _ (List.mem_append_right _ h))))))))
theorem inX3 : ∀ w ∈ wsX30, w ∈ lw_tbl := fun w h => wsL_law_in w (inlX3 w h)
theorem inlX4 : ∀ w ∈ wsX40, w ∈ wsL_law := fun _ h => List.mem_append_left _ (List.mem_append_left _ (List.mem_append_left _ (List.mem_append_left _ (List.mem_append_right _ h))))
theorem inX4 : ∀ w ∈ wsX40, w ∈ lw_tbl := fun w h => wsL_law_in w (inlX4 w h)
theorem inX5 : ∀ w ∈ wsX50, w ∈ lw_tbl := by decide +kernel
theorem inJ9 : ∀ w ∈ wsJ90, w ∈ lw_tbl := by decide +kernel
theorem inJ0 : ∀ w ∈ wsJ00, w ∈ lw_tbl := by decide +kernel
set_option maxRecDepth 20000 in
theorem ggX0_init_X1_init : GoodIn wsX0_init wsX1_init := goodIn_r _ [11, 12, 2, 3, 13, 14, 15, 16, 17] (by decide +kernel) (by decide +kernel)
set_option maxRecDepth 20000 in
theorem gX0_init_X1_init_n11 : GoodIn wsX0_init (wsX1_init) := ggX0_init_X1_init
theorem dX0_init_0 : decode cX0_init 0 = .ok (.aload_n 0, 1) := by decide +kernel
theorem dX0_init_1 : decode cX0_init 1 = .ok (.invokespecial 3, 3) := by decide +kernel
theorem dX0_init_4 : decode cX0_init 4 = .ok (.aload_n 0, 1) := by decide +kernel
theorem dX0_init_5 : decode cX0_init 5 = .ok (.new 9, 3) := by decide +kernel
theorem dX0_init_8 : decode cX0_init 8 = .ok (.dup, 1) := by decide +kernel
theorem dX0_init_9 : decode cX0_init 9 = .ok (.invokespecial 11, 3) := by decide +kernel
theorem dX0_init_12 : decode cX0_init 12 = .ok (.putfield 12, 3) := by decide +kernel
theorem dX0_init_15 : decode cX0_init 15 = .ok (.aload_n 0, 1) := by decide +kernel
theorem dX0_init_16 : decode cX0_init 16 = .ok (.bipush 10, 2) := by decide +kernel
theorem dX0_init_18 : decode cX0_init 18 = .ok (.anewarray 9, 3) := by decide +kernel
theorem dX0_init_21 : decode cX0_init 21 = .ok (.putfield 18, 3) := by decide +kernel
theorem dX0_init_24 : decode cX0_init 24 = .ok (.aload_n 0, 1) := by decide +kernel
theorem dX0_init_25 : decode cX0_init 25 = .ok (.new 9, 3) := by decide +kernel
theorem dX0_init_28 : decode cX0_init 28 = .ok (.dup, 1) := by decide +kernel
theorem dX0_init_29 : decode cX0_init 29 = .ok (.invokespecial 11, 3) := by decide +kernel
theorem dX0_init_32 : decode cX0_init 32 = .ok (.putfield 22, 3) := by decide +kernel
theorem dX0_init_35 : decode cX0_init 35 = .ok (.iconst 0, 1) := by decide +kernel
theorem dX0_init_36 : decode cX0_init 36 = .ok (.istore_n 1, 1) := by decide +kernel
theorem dX0_init_37 : decode cX0_init 37 = .ok (.iload_n 1, 1) := by decide +kernel
theorem dX0_init_38 : decode cX0_init 38 = .ok (.aload_n 0, 1) := by decide +kernel
theorem dX0_init_39 : decode cX0_init 39 = .ok (.getfield 18, 3) := by decide +kernel
theorem dX0_init_42 : decode cX0_init 42 = .ok (.arraylength, 1) := by decide +kernel
theorem dX0_init_43 : decode cX0_init 43 = .ok (.if_icmp .ge 22, 3) := by decide +kernel
theorem dX0_init_46 : decode cX0_init 46 = .ok (.aload_n 0, 1) := by decide +kernel
theorem dX0_init_47 : decode cX0_init 47 = .ok (.getfield 18, 3) := by decide +kernel
theorem dX0_init_50 : decode cX0_init 50 = .ok (.iload_n 1, 1) := by decide +kernel
theorem dX0_init_51 : decode cX0_init 51 = .ok (.new 9, 3) := by decide +kernel
theorem dX0_init_54 : decode cX0_init 54 = .ok (.dup, 1) := by decide +kernel
theorem dX0_init_55 : decode cX0_init 55 = .ok (.invokespecial 11, 3) := by decide +kernel
theorem dX0_init_58 : decode cX0_init 58 = .ok (.aastore, 1) := by decide +kernel
theorem dX0_init_59 : decode cX0_init 59 = .ok (.iinc 1 1, 3) := by decide +kernel
theorem dX0_init_62 : decode cX0_init 62 = .ok (.goto (-25), 3) := by decide +kernel
theorem dX0_init_65 : decode cX0_init 65 = .ok (.return_, 1) := by decide +kernel
set_option maxRecDepth 20000 in
theorem ggX0_size_X1_size : GoodIn wsX0_size wsX1_size := goodIn_r _ [6, 7, 11, 12] (by decide +kernel) (by decide +kernel)
set_option maxRecDepth 20000 in
theorem gX0_size_X1_size : GoodIn wsX0_size (wsV RX0 25 RX1 yX1_size wsX1_size) := goodIn_app (goodIn_of _ (by decide +kernel)) ggX0_size_X1_size
theorem dX0_size_0 : decode cX0_size 0 = .ok (.aload_n 0, 1) := by decide +kernel
theorem dX0_size_1 : decode cX0_size 1 = .ok (.getfield 12, 3) := by decide +kernel
theorem dX0_size_4 : decode cX0_size 4 = .ok (.invokevirtual 25, 3) := by decide +kernel
theorem dX0_size_7 : decode cX0_size 7 = .ok (.ireturn, 1) := by decide +kernel
set_option maxRecDepth 20000 in
theorem ggX0_settle_X1_size : GoodIn wsX0_settle wsX1_size := goodIn_r _ [6, 7, 28, 29] (by decide +kernel) (by decide +kernel)
set_option maxRecDepth 20000 in
theorem gX0_settle_X1_size : GoodIn wsX0_settle (wsV RX0 25 RX1 yX1_size wsX1_size) := goodIn_app (goodIn_of _ (by decide +kernel)) ggX0_settle_X1_size
set_option maxRecDepth 20000 in
theorem ggX0_settle_X1_insert : GoodIn wsX0_settle wsX1_insert := goodIn_r _ [11, 7, 12, 13, 14, 15, 5, 16, 17, 18, 19, 20, 21, 22, 23, 24, 28, 29] (by decide +kernel) (by decide +kernel)
set_option maxRecDepth 20000 in
theorem gX0_settle_X1_insert : GoodIn wsX0_settle (wsV RX0 29 RX1 yX1_insert wsX1_insert) := goodIn_app (goodIn_of _ (by decide +kernel)) ggX0_settle_X1_insert
theorem dX0_settle_0 : decode cX0_settle 0 = .ok (.aload_n 0, 1) := by decide +kernel
theorem dX0_settle_1 : decode cX0_settle 1 = .ok (.getfield 12, 3) := by decide +kernel
theorem dX0_settle_4 : decode cX0_settle 4 = .ok (.invokevirtual 25, 3) := by decide +kernel
theorem dX0_settle_7 : decode cX0_settle 7 = .ok (.istore_n 1, 1) := by decide +kernel
theorem dX0_settle_8 : decode cX0_settle 8 = .ok (.aload_n 0, 1) := by decide +kernel
theorem dX0_settle_9 : decode cX0_settle 9 = .ok (.getfield 12, 3) := by decide +kernel
theorem dX0_settle_12 : decode cX0_settle 12 = .ok (.iload_n 1, 1) := by decide +kernel
theorem dX0_settle_13 : decode cX0_settle 13 = .ok (.iload_n 1, 1) := by decide +kernel
theorem dX0_settle_14 : decode cX0_settle 14 = .ok (.invokevirtual 29, 3) := by decide +kernel
theorem dX0_settle_17 : decode cX0_settle 17 = .ok (.iload_n 1, 1) := by decide +kernel
theorem dX0_settle_18 : decode cX0_settle 18 = .ok (.ireturn, 1) := by decide +kernel
set_option maxRecDepth 20000 in
theorem ggX0_hutOf_X1_at : GoodIn wsX0_hutOf wsX1_at := goodIn_r _ [6, 7, 8, 12, 13] (by decide +kernel) (by decide +kernel)
set_option maxRecDepth 20000 in
theorem gX0_hutOf_X1_at : GoodIn wsX0_hutOf (wsV RX0 33 RX1 yX1_at wsX1_at) := goodIn_app (goodIn_of _ (by decide +kernel)) ggX0_hutOf_X1_at
theorem dX0_hutOf_0 : decode cX0_hutOf 0 = .ok (.aload_n 0, 1) := by decide +kernel
theorem dX0_hutOf_1 : decode cX0_hutOf 1 = .ok (.getfield 12, 3) := by decide +kernel
theorem dX0_hutOf_4 : decode cX0_hutOf 4 = .ok (.iload_n 1, 1) := by decide +kernel
theorem dX0_hutOf_5 : decode cX0_hutOf 5 = .ok (.invokevirtual 33, 3) := by decide +kernel
theorem dX0_hutOf_8 : decode cX0_hutOf 8 = .ok (.ireturn, 1) := by decide +kernel
set_option maxRecDepth 20000 in
theorem ggX0_keeperIn_X1_placeOf : GoodIn wsX0_keeperIn wsX1_placeOf := goodIn_r _ [6, 7, 8, 12, 13] (by decide +kernel) (by decide +kernel)
set_option maxRecDepth 20000 in
theorem gX0_keeperIn_X1_placeOf : GoodIn wsX0_keeperIn (wsV RX0 37 RX1 yX1_placeOf wsX1_placeOf) := goodIn_app (goodIn_of _ (by decide +kernel)) ggX0_keeperIn_X1_placeOf
theorem dX0_keeperIn_0 : decode cX0_keeperIn 0 = .ok (.aload_n 0, 1) := by decide +kernel
theorem dX0_keeperIn_1 : decode cX0_keeperIn 1 = .ok (.getfield 12, 3) := by decide +kernel
theorem dX0_keeperIn_4 : decode cX0_keeperIn 4 = .ok (.iload_n 1, 1) := by decide +kernel
theorem dX0_keeperIn_5 : decode cX0_keeperIn 5 = .ok (.invokevirtual 37, 3) := by decide +kernel
theorem dX0_keeperIn_8 : decode cX0_keeperIn 8 = .ok (.ireturn, 1) := by decide +kernel
theorem dX0_likesOf_0 : decode cX0_likesOf 0 = .ok (.iload_n 1, 1) := by decide +kernel
theorem dX0_likesOf_1 : decode cX0_likesOf 1 = .ok (.ifCond .lt 21, 3) := by decide +kernel
theorem dX0_likesOf_4 : decode cX0_likesOf 4 = .ok (.iload_n 1, 1) := by decide +kernel
theorem dX0_likesOf_5 : decode cX0_likesOf 5 = .ok (.aload_n 0, 1) := by decide +kernel
theorem dX0_likesOf_6 : decode cX0_likesOf 6 = .ok (.getfield 18, 3) := by decide +kernel
theorem dX0_likesOf_9 : decode cX0_likesOf 9 = .ok (.arraylength, 1) := by decide +kernel
theorem dX0_likesOf_10 : decode cX0_likesOf 10 = .ok (.if_icmp .ge 12, 3) := by decide +kernel
theorem dX0_likesOf_13 : decode cX0_likesOf 13 = .ok (.aload_n 0, 1) := by decide +kernel
theorem dX0_likesOf_14 : decode cX0_likesOf 14 = .ok (.getfield 18, 3) := by decide +kernel
theorem dX0_likesOf_17 : decode cX0_likesOf 17 = .ok (.iload_n 1, 1) := by decide +kernel
theorem dX0_likesOf_18 : decode cX0_likesOf 18 = .ok (.aaload, 1) := by decide +kernel
theorem dX0_likesOf_19 : decode cX0_likesOf 19 = .ok (.goto 4, 3) := by decide +kernel
theorem dX0_likesOf_22 : decode cX0_likesOf 22 = .ok (.aconst_null, 1) := by decide +kernel
theorem dX0_likesOf_23 : decode cX0_likesOf 23 = .ok (.astore_n 2, 1) := by decide +kernel
theorem dX0_likesOf_24 : decode cX0_likesOf 24 = .ok (.aload_n 2, 1) := by decide +kernel
theorem dX0_likesOf_25 : decode cX0_likesOf 25 = .ok (.ifnonnull 10, 3) := by decide +kernel
theorem dX0_likesOf_28 : decode cX0_likesOf 28 = .ok (.aload_n 0, 1) := by decide +kernel
theorem dX0_likesOf_29 : decode cX0_likesOf 29 = .ok (.getfield 22, 3) := by decide +kernel
theorem dX0_likesOf_32 : decode cX0_likesOf 32 = .ok (.goto 4, 3) := by decide +kernel
theorem dX0_likesOf_35 : decode cX0_likesOf 35 = .ok (.aload_n 2, 1) := by decide +kernel
theorem dX0_likesOf_36 : decode cX0_likesOf 36 = .ok (.areturn, 1) := by decide +kernel
set_option maxRecDepth 20000 in
theorem ggX0_rankOf_X0_likesOf : GoodIn wsX0_rankOf wsX0_likesOf := goodIn_r _ [5, 6, 7, 28, 29, 30] (by decide +kernel) (by decide +kernel)
set_option maxRecDepth 20000 in
theorem gX0_rankOf_X0_likesOf : GoodIn wsX0_rankOf (wsV RX0 40 RX0 yX0_likesOf wsX0_likesOf) := goodIn_app (goodIn_of _ (by decide +kernel)) ggX0_rankOf_X0_likesOf
set_option maxRecDepth 20000 in
theorem ggX0_rankOf_X0_hutOf : GoodIn wsX0_rankOf wsX0_hutOf := goodIn_r _ [11, 12, 13, 14, 15, 16, 17, 18, 19, 28, 29, 30, 31, 32] (by decide +kernel) (by decide +kernel)
set_option maxRecDepth 20000 in
theorem gX0_rankOf_X0_hutOf : GoodIn wsX0_rankOf (wsV RX0 44 RX0 yX0_hutOf wsX0_hutOf) := goodIn_app (goodIn_of _ (by decide +kernel)) ggX0_rankOf_X0_hutOf
set_option maxRecDepth 20000 in
theorem ggX0_rankOf_X1_size : GoodIn wsX0_rankOf wsX1_size := goodIn_r _ [23, 18, 31, 32] (by decide +kernel) (by decide +kernel)
set_option maxRecDepth 20000 in
theorem gX0_rankOf_X1_size : GoodIn wsX0_rankOf (wsV RX0 25 RX1 yX1_size wsX1_size) := goodIn_app (goodIn_of _ (by decide +kernel)) ggX0_rankOf_X1_size
set_option maxRecDepth 20000 in
theorem ggX0_rankOf_X1_placeOf : GoodIn wsX0_rankOf wsX1_placeOf := goodIn_r _ [27, 18, 19, 31, 32] (by decide +kernel) (by decide +kernel)
set_option maxRecDepth 20000 in
theorem gX0_rankOf_X1_placeOf : GoodIn wsX0_rankOf (wsV RX0 37 RX1 yX1_placeOf wsX1_placeOf) := goodIn_app (goodIn_of _ (by decide +kernel)) ggX0_rankOf_X1_placeOf
theorem dX0_rankOf_0 : decode cX0_rankOf 0 = .ok (.aload_n 0, 1) := by decide +kernel
theorem dX0_rankOf_1 : decode cX0_rankOf 1 = .ok (.iload_n 1, 1) := by decide +kernel
theorem dX0_rankOf_2 : decode cX0_rankOf 2 = .ok (.invokevirtual 40, 3) := by decide +kernel
theorem dX0_rankOf_5 : decode cX0_rankOf 5 = .ok (.astore_n 3, 1) := by decide +kernel
theorem dX0_rankOf_6 : decode cX0_rankOf 6 = .ok (.iload_n 2, 1) := by decide +kernel
theorem dX0_rankOf_7 : decode cX0_rankOf 7 = .ok (.aload_n 0, 1) := by decide +kernel
theorem dX0_rankOf_8 : decode cX0_rankOf 8 = .ok (.iload_n 1, 1) := by decide +kernel
theorem dX0_rankOf_9 : decode cX0_rankOf 9 = .ok (.invokevirtual 44, 3) := by decide +kernel
theorem dX0_rankOf_12 : decode cX0_rankOf 12 = .ok (.if_icmp .ne 10, 3) := by decide +kernel
theorem dX0_rankOf_15 : decode cX0_rankOf 15 = .ok (.aload_n 3, 1) := by decide +kernel
theorem dX0_rankOf_16 : decode cX0_rankOf 16 = .ok (.invokevirtual 25, 3) := by decide +kernel
theorem dX0_rankOf_19 : decode cX0_rankOf 19 = .ok (.goto 8, 3) := by decide +kernel
theorem dX0_rankOf_22 : decode cX0_rankOf 22 = .ok (.aload_n 3, 1) := by decide +kernel
theorem dX0_rankOf_23 : decode cX0_rankOf 23 = .ok (.iload_n 2, 1) := by decide +kernel
theorem dX0_rankOf_24 : decode cX0_rankOf 24 = .ok (.invokevirtual 37, 3) := by decide +kernel
theorem dX0_rankOf_27 : decode cX0_rankOf 27 = .ok (.ireturn, 1) := by decide +kernel
set_option maxRecDepth 20000 in
theorem ggX0_moveInto_X0_likesOf : GoodIn wsX0_moveInto wsX0_likesOf := goodIn_r _ [6, 7, 8, 28, 29, 30] (by decide +kernel) (by decide +kernel)
set_option maxRecDepth 20000 in
theorem gX0_moveInto_X0_likesOf : GoodIn wsX0_moveInto (wsV RX0 40 RX0 yX0_likesOf wsX0_likesOf) := goodIn_app (goodIn_of _ (by decide +kernel)) ggX0_moveInto_X0_likesOf
set_option maxRecDepth 20000 in
theorem ggX0_moveInto_X1_placeOf : GoodIn wsX0_moveInto wsX1_placeOf := goodIn_r _ [13, 14, 15, 31, 32] (by decide +kernel) (by decide +kernel)
set_option maxRecDepth 20000 in
theorem gX0_moveInto_X1_placeOf : GoodIn wsX0_moveInto (wsV RX0 37 RX1 yX1_placeOf wsX1_placeOf) := goodIn_app (goodIn_of _ (by decide +kernel)) ggX0_moveInto_X1_placeOf
set_option maxRecDepth 20000 in
theorem ggX0_moveInto_X1_cutFrom : GoodIn wsX0_moveInto wsX1_cutFrom := goodIn_r _ [19, 14, 20, 21, 22, 12, 23, 15, 31, 32] (by decide +kernel) (by decide +kernel)
set_option maxRecDepth 20000 in
theorem gX0_moveInto_X1_cutFrom : GoodIn wsX0_moveInto (wsV RX0 47 RX1 yX1_cutFrom wsX1_cutFrom) := goodIn_app (goodIn_of _ (by decide +kernel)) ggX0_moveInto_X1_cutFrom
set_option maxRecDepth 20000 in
theorem ggX0_moveInto_X1_put : GoodIn wsX0_moveInto wsX1_put := goodIn_r _ [27, 15, 20, 21, 22, 12, 23, 14, 31, 32] (by decide +kernel) (by decide +kernel)
set_option maxRecDepth 20000 in
theorem gX0_moveInto_X1_put : GoodIn wsX0_moveInto (wsV RX0 51 RX1 yX1_put wsX1_put) := goodIn_app (goodIn_of _ (by decide +kernel)) ggX0_moveInto_X1_put
theorem dX0_moveInto_0 : decode cX0_moveInto 0 = .ok (.aload_n 0, 1) := by decide +kernel
theorem dX0_moveInto_1 : decode cX0_moveInto 1 = .ok (.iload_n 1, 1) := by decide +kernel
theorem dX0_moveInto_2 : decode cX0_moveInto 2 = .ok (.invokevirtual 40, 3) := by decide +kernel
theorem dX0_moveInto_5 : decode cX0_moveInto 5 = .ok (.astore_n 3, 1) := by decide +kernel
theorem dX0_moveInto_6 : decode cX0_moveInto 6 = .ok (.aload_n 3, 1) := by decide +kernel
theorem dX0_moveInto_7 : decode cX0_moveInto 7 = .ok (.aload_n 3, 1) := by decide +kernel
theorem dX0_moveInto_8 : decode cX0_moveInto 8 = .ok (.iload_n 2, 1) := by decide +kernel
theorem dX0_moveInto_9 : decode cX0_moveInto 9 = .ok (.invokevirtual 37, 3) := by decide +kernel
theorem dX0_moveInto_12 : decode cX0_moveInto 12 = .ok (.invokevirtual 47, 3) := by decide +kernel
theorem dX0_moveInto_15 : decode cX0_moveInto 15 = .ok (.aload_n 0, 1) := by decide +kernel
theorem dX0_moveInto_16 : decode cX0_moveInto 16 = .ok (.getfield 12, 3) := by decide +kernel
theorem dX0_moveInto_19 : decode cX0_moveInto 19 = .ok (.iload_n 1, 1) := by decide +kernel
theorem dX0_moveInto_20 : decode cX0_moveInto 20 = .ok (.iload_n 2, 1) := by decide +kernel
theorem dX0_moveInto_21 : decode cX0_moveInto 21 = .ok (.invokevirtual 51, 3) := by decide +kernel
theorem dX0_moveInto_24 : decode cX0_moveInto 24 = .ok (.return_, 1) := by decide +kernel
theorem dX1_init_0 : decode cX1_init 0 = .ok (.aload_n 0, 1) := by decide +kernel
theorem dX1_init_1 : decode cX1_init 1 = .ok (.invokespecial 3, 3) := by decide +kernel
theorem dX1_init_4 : decode cX1_init 4 = .ok (.aload_n 0, 1) := by decide +kernel
theorem dX1_init_5 : decode cX1_init 5 = .ok (.bipush 10, 2) := by decide +kernel
theorem dX1_init_7 : decode cX1_init 7 = .ok (.newarray .int, 2) := by decide +kernel
theorem dX1_init_9 : decode cX1_init 9 = .ok (.putfield 9, 3) := by decide +kernel
theorem dX1_init_12 : decode cX1_init 12 = .ok (.aload_n 0, 1) := by decide +kernel
theorem dX1_init_13 : decode cX1_init 13 = .ok (.iconst 0, 1) := by decide +kernel
theorem dX1_init_14 : decode cX1_init 14 = .ok (.putfield 15, 3) := by decide +kernel
theorem dX1_init_17 : decode cX1_init 17 = .ok (.return_, 1) := by decide +kernel
theorem dX1_size_0 : decode cX1_size 0 = .ok (.aload_n 0, 1) := by decide +kernel
theorem dX1_size_1 : decode cX1_size 1 = .ok (.getfield 15, 3) := by decide +kernel
theorem dX1_size_4 : decode cX1_size 4 = .ok (.ireturn, 1) := by decide +kernel
theorem dX1_at_0 : decode cX1_at 0 = .ok (.iload_n 1, 1) := by decide +kernel
theorem dX1_at_1 : decode cX1_at 1 = .ok (.ifCond .lt 29, 3) := by decide +kernel
theorem dX1_at_4 : decode cX1_at 4 = .ok (.iload_n 1, 1) := by decide +kernel
theorem dX1_at_5 : decode cX1_at 5 = .ok (.aload_n 0, 1) := by decide +kernel
theorem dX1_at_6 : decode cX1_at 6 = .ok (.getfield 15, 3) := by decide +kernel
theorem dX1_at_9 : decode cX1_at 9 = .ok (.if_icmp .ge 21, 3) := by decide +kernel
theorem dX1_at_12 : decode cX1_at 12 = .ok (.iload_n 1, 1) := by decide +kernel
theorem dX1_at_13 : decode cX1_at 13 = .ok (.aload_n 0, 1) := by decide +kernel
theorem dX1_at_14 : decode cX1_at 14 = .ok (.getfield 9, 3) := by decide +kernel
theorem dX1_at_17 : decode cX1_at 17 = .ok (.arraylength, 1) := by decide +kernel
theorem dX1_at_18 : decode cX1_at 18 = .ok (.if_icmp .ge 12, 3) := by decide +kernel
theorem dX1_at_21 : decode cX1_at 21 = .ok (.aload_n 0, 1) := by decide +kernel
theorem dX1_at_22 : decode cX1_at 22 = .ok (.getfield 9, 3) := by decide +kernel
theorem dX1_at_25 : decode cX1_at 25 = .ok (.iload_n 1, 1) := by decide +kernel
theorem dX1_at_26 : decode cX1_at 26 = .ok (.iaload, 1) := by decide +kernel
theorem dX1_at_27 : decode cX1_at 27 = .ok (.goto 4, 3) := by decide +kernel
theorem dX1_at_30 : decode cX1_at 30 = .ok (.iconst (-1), 1) := by decide +kernel
theorem dX1_at_31 : decode cX1_at 31 = .ok (.ireturn, 1) := by decide +kernel
set_option maxRecDepth 20000 in
theorem ggX1_put_X1_has : GoodIn wsX1_put wsX1_has := goodIn_r _ [6, 7, 1, 8, 9] (by decide +kernel) (by decide +kernel)
set_option maxRecDepth 20000 in
theorem gX1_put_X1_has : GoodIn wsX1_put (wsV RX1 19 RX1 yX1_has wsX1_has) := goodIn_app (goodIn_of _ (by decide +kernel)) ggX1_put_X1_has
theorem dX1_put_0 : decode cX1_put 0 = .ok (.aload_n 0, 1) := by decide +kernel
theorem dX1_put_1 : decode cX1_put 1 = .ok (.iload_n 1, 1) := by decide +kernel
theorem dX1_put_2 : decode cX1_put 2 = .ok (.invokevirtual 19, 3) := by decide +kernel
theorem dX1_put_5 : decode cX1_put 5 = .ok (.ifCond .eq 10, 3) := by decide +kernel
theorem dX1_put_8 : decode cX1_put 8 = .ok (.aload_n 0, 1) := by decide +kernel
theorem dX1_put_9 : decode cX1_put 9 = .ok (.getfield 9, 3) := by decide +kernel
theorem dX1_put_12 : decode cX1_put 12 = .ok (.iload_n 1, 1) := by decide +kernel
theorem dX1_put_13 : decode cX1_put 13 = .ok (.iload_n 2, 1) := by decide +kernel
theorem dX1_put_14 : decode cX1_put 14 = .ok (.iastore, 1) := by decide +kernel
theorem dX1_put_15 : decode cX1_put 15 = .ok (.return_, 1) := by decide +kernel
theorem dX1_placeOf_0 : decode cX1_placeOf 0 = .ok (.iconst 0, 1) := by decide +kernel
theorem dX1_placeOf_1 : decode cX1_placeOf 1 = .ok (.istore_n 2, 1) := by decide +kernel
theorem dX1_placeOf_2 : decode cX1_placeOf 2 = .ok (.iload_n 2, 1) := by decide +kernel
theorem dX1_placeOf_3 : decode cX1_placeOf 3 = .ok (.aload_n 0, 1) := by decide +kernel
theorem dX1_placeOf_4 : decode cX1_placeOf 4 = .ok (.getfield 15, 3) := by decide +kernel
theorem dX1_placeOf_7 : decode cX1_placeOf 7 = .ok (.if_icmp .ge 30, 3) := by decide +kernel
theorem dX1_placeOf_10 : decode cX1_placeOf 10 = .ok (.iload_n 2, 1) := by decide +kernel
theorem dX1_placeOf_11 : decode cX1_placeOf 11 = .ok (.aload_n 0, 1) := by decide +kernel
theorem dX1_placeOf_12 : decode cX1_placeOf 12 = .ok (.getfield 9, 3) := by decide +kernel
theorem dX1_placeOf_15 : decode cX1_placeOf 15 = .ok (.arraylength, 1) := by decide +kernel
theorem dX1_placeOf_16 : decode cX1_placeOf 16 = .ok (.if_icmp .ge 21, 3) := by decide +kernel
theorem dX1_placeOf_19 : decode cX1_placeOf 19 = .ok (.aload_n 0, 1) := by decide +kernel
theorem dX1_placeOf_20 : decode cX1_placeOf 20 = .ok (.getfield 9, 3) := by decide +kernel
theorem dX1_placeOf_23 : decode cX1_placeOf 23 = .ok (.iload_n 2, 1) := by decide +kernel
theorem dX1_placeOf_24 : decode cX1_placeOf 24 = .ok (.iaload, 1) := by decide +kernel
theorem dX1_placeOf_25 : decode cX1_placeOf 25 = .ok (.iload_n 1, 1) := by decide +kernel
theorem dX1_placeOf_26 : decode cX1_placeOf 26 = .ok (.if_icmp .ne 5, 3) := by decide +kernel
theorem dX1_placeOf_29 : decode cX1_placeOf 29 = .ok (.iload_n 2, 1) := by decide +kernel
theorem dX1_placeOf_30 : decode cX1_placeOf 30 = .ok (.ireturn, 1) := by decide +kernel
theorem dX1_placeOf_31 : decode cX1_placeOf 31 = .ok (.iinc 2 1, 3) := by decide +kernel
theorem dX1_placeOf_34 : decode cX1_placeOf 34 = .ok (.goto (-32), 3) := by decide +kernel
theorem dX1_placeOf_37 : decode cX1_placeOf 37 = .ok (.iconst (-1), 1) := by decide +kernel
theorem dX1_placeOf_38 : decode cX1_placeOf 38 = .ok (.ireturn, 1) := by decide +kernel
set_option maxRecDepth 20000 in
theorem ggX1_insert_X1_at : GoodIn wsX1_insert wsX1_at := goodIn_r _ [7, 1, 2, 16, 17] (by decide +kernel) (by decide +kernel)
set_option maxRecDepth 20000 in
theorem gX1_insert_X1_at : GoodIn wsX1_insert (wsV RX1 23 RX1 yX1_at wsX1_at) := goodIn_app (goodIn_of _ (by decide +kernel)) ggX1_insert_X1_at
set_option maxRecDepth 20000 in
theorem ggX1_insert_X1_put : GoodIn wsX1_insert wsX1_put := goodIn_r _ [11, 2, 12, 13, 14, 6, 15, 1, 16, 17] (by decide +kernel) (by decide +kernel)
set_option maxRecDepth 20000 in
theorem gX1_insert_X1_put : GoodIn wsX1_insert (wsV RX1 27 RX1 yX1_put wsX1_put) := goodIn_app (goodIn_of _ (by decide +kernel)) ggX1_insert_X1_put
theorem dX1_insert_0 : decode cX1_insert 0 = .ok (.iload_n 1, 1) := by decide +kernel
theorem dX1_insert_1 : decode cX1_insert 1 = .ok (.ifCond .lt 23, 3) := by decide +kernel
theorem dX1_insert_4 : decode cX1_insert 4 = .ok (.iload_n 1, 1) := by decide +kernel
theorem dX1_insert_5 : decode cX1_insert 5 = .ok (.aload_n 0, 1) := by decide +kernel
theorem dX1_insert_6 : decode cX1_insert 6 = .ok (.getfield 15, 3) := by decide +kernel
theorem dX1_insert_9 : decode cX1_insert 9 = .ok (.if_icmp .gt 15, 3) := by decide +kernel
theorem dX1_insert_12 : decode cX1_insert 12 = .ok (.aload_n 0, 1) := by decide +kernel
theorem dX1_insert_13 : decode cX1_insert 13 = .ok (.getfield 15, 3) := by decide +kernel
theorem dX1_insert_16 : decode cX1_insert 16 = .ok (.aload_n 0, 1) := by decide +kernel
theorem dX1_insert_17 : decode cX1_insert 17 = .ok (.getfield 9, 3) := by decide +kernel
theorem dX1_insert_20 : decode cX1_insert 20 = .ok (.arraylength, 1) := by decide +kernel
theorem dX1_insert_21 : decode cX1_insert 21 = .ok (.if_icmp .lt 4, 3) := by decide +kernel
theorem dX1_insert_24 : decode cX1_insert 24 = .ok (.return_, 1) := by decide +kernel
theorem dX1_insert_25 : decode cX1_insert 25 = .ok (.aload_n 0, 1) := by decide +kernel
theorem dX1_insert_26 : decode cX1_insert 26 = .ok (.dup, 1) := by decide +kernel
theorem dX1_insert_27 : decode cX1_insert 27 = .ok (.getfield 15, 3) := by decide +kernel
theorem dX1_insert_30 : decode cX1_insert 30 = .ok (.iconst 1, 1) := by decide +kernel
theorem dX1_insert_31 : decode cX1_insert 31 = .ok (.iadd, 1) := by decide +kernel
theorem dX1_insert_32 : decode cX1_insert 32 = .ok (.putfield 15, 3) := by decide +kernel
theorem dX1_insert_35 : decode cX1_insert 35 = .ok (.aload_n 0, 1) := by decide +kernel
theorem dX1_insert_36 : decode cX1_insert 36 = .ok (.getfield 15, 3) := by decide +kernel
theorem dX1_insert_39 : decode cX1_insert 39 = .ok (.iconst 1, 1) := by decide +kernel
theorem dX1_insert_40 : decode cX1_insert 40 = .ok (.isub, 1) := by decide +kernel
theorem dX1_insert_41 : decode cX1_insert 41 = .ok (.istore_n 3, 1) := by decide +kernel
theorem dX1_insert_42 : decode cX1_insert 42 = .ok (.iload_n 3, 1) := by decide +kernel
theorem dX1_insert_43 : decode cX1_insert 43 = .ok (.iload_n 1, 1) := by decide +kernel
theorem dX1_insert_44 : decode cX1_insert 44 = .ok (.if_icmp .le 21, 3) := by decide +kernel
theorem dX1_insert_47 : decode cX1_insert 47 = .ok (.aload_n 0, 1) := by decide +kernel
theorem dX1_insert_48 : decode cX1_insert 48 = .ok (.iload_n 3, 1) := by decide +kernel
theorem dX1_insert_49 : decode cX1_insert 49 = .ok (.aload_n 0, 1) := by decide +kernel
theorem dX1_insert_50 : decode cX1_insert 50 = .ok (.iload_n 3, 1) := by decide +kernel
theorem dX1_insert_51 : decode cX1_insert 51 = .ok (.iconst 1, 1) := by decide +kernel
theorem dX1_insert_52 : decode cX1_insert 52 = .ok (.isub, 1) := by decide +kernel
theorem dX1_insert_53 : decode cX1_insert 53 = .ok (.invokevirtual 23, 3) := by decide +kernel
theorem dX1_insert_56 : decode cX1_insert 56 = .ok (.invokevirtual 27, 3) := by decide +kernel
theorem dX1_insert_59 : decode cX1_insert 59 = .ok (.iinc 3 (-1), 3) := by decide +kernel
theorem dX1_insert_62 : decode cX1_insert 62 = .ok (.goto (-20), 3) := by decide +kernel
theorem dX1_insert_65 : decode cX1_insert 65 = .ok (.aload_n 0, 1) := by decide +kernel
theorem dX1_insert_66 : decode cX1_insert 66 = .ok (.iload_n 1, 1) := by decide +kernel
theorem dX1_insert_67 : decode cX1_insert 67 = .ok (.iload_n 2, 1) := by decide +kernel
theorem dX1_insert_68 : decode cX1_insert 68 = .ok (.invokevirtual 27, 3) := by decide +kernel
theorem dX1_insert_71 : decode cX1_insert 71 = .ok (.return_, 1) := by decide +kernel
set_option maxRecDepth 20000 in
theorem ggX1_take_X1_has : GoodIn wsX1_take wsX1_has := goodIn_r _ [6, 1, 7, 16, 17] (by decide +kernel) (by decide +kernel)
set_option maxRecDepth 20000 in
theorem gX1_take_X1_has : GoodIn wsX1_take (wsV RX1 19 RX1 yX1_has wsX1_has) := goodIn_app (goodIn_of _ (by decide +kernel)) ggX1_take_X1_has
set_option maxRecDepth 20000 in
theorem ggX1_take_X1_at : GoodIn wsX1_take wsX1_at := goodIn_r _ [11, 1, 7, 16, 17] (by decide +kernel) (by decide +kernel)
set_option maxRecDepth 20000 in
theorem gX1_take_X1_at : GoodIn wsX1_take (wsV RX1 23 RX1 yX1_at wsX1_at) := goodIn_app (goodIn_of _ (by decide +kernel)) ggX1_take_X1_at
set_option maxRecDepth 20000 in
theorem ggX1_take_X1_put : GoodIn wsX1_take wsX1_put := goodIn_r _ [15, 7, 2, 3, 4, 5, 6, 1, 16, 17] (by decide +kernel) (by decide +kernel)
set_option maxRecDepth 20000 in
theorem gX1_take_X1_put : GoodIn wsX1_take (wsV RX1 27 RX1 yX1_put wsX1_put) := goodIn_app (goodIn_of _ (by decide +kernel)) ggX1_take_X1_put
theorem dX1_take_0 : decode cX1_take 0 = .ok (.aload_n 0, 1) := by decide +kernel
theorem dX1_take_1 : decode cX1_take 1 = .ok (.iload_n 1, 1) := by decide +kernel
theorem dX1_take_2 : decode cX1_take 2 = .ok (.invokevirtual 19, 3) := by decide +kernel
theorem dX1_take_5 : decode cX1_take 5 = .ok (.ifCond .ne 5, 3) := by decide +kernel
theorem dX1_take_8 : decode cX1_take 8 = .ok (.iconst (-1), 1) := by decide +kernel
theorem dX1_take_9 : decode cX1_take 9 = .ok (.ireturn, 1) := by decide +kernel
theorem dX1_take_10 : decode cX1_take 10 = .ok (.aload_n 0, 1) := by decide +kernel
theorem dX1_take_11 : decode cX1_take 11 = .ok (.iload_n 1, 1) := by decide +kernel
theorem dX1_take_12 : decode cX1_take 12 = .ok (.invokevirtual 23, 3) := by decide +kernel
theorem dX1_take_15 : decode cX1_take 15 = .ok (.istore_n 2, 1) := by decide +kernel
theorem dX1_take_16 : decode cX1_take 16 = .ok (.iload_n 1, 1) := by decide +kernel
theorem dX1_take_17 : decode cX1_take 17 = .ok (.istore_n 3, 1) := by decide +kernel
theorem dX1_take_18 : decode cX1_take 18 = .ok (.iload_n 3, 1) := by decide +kernel
theorem dX1_take_19 : decode cX1_take 19 = .ok (.aload_n 0, 1) := by decide +kernel
theorem dX1_take_20 : decode cX1_take 20 = .ok (.getfield 15, 3) := by decide +kernel
theorem dX1_take_23 : decode cX1_take 23 = .ok (.iconst 1, 1) := by decide +kernel
theorem dX1_take_24 : decode cX1_take 24 = .ok (.isub, 1) := by decide +kernel
theorem dX1_take_25 : decode cX1_take 25 = .ok (.if_icmp .ge 21, 3) := by decide +kernel
theorem dX1_take_28 : decode cX1_take 28 = .ok (.aload_n 0, 1) := by decide +kernel
theorem dX1_take_29 : decode cX1_take 29 = .ok (.iload_n 3, 1) := by decide +kernel
theorem dX1_take_30 : decode cX1_take 30 = .ok (.aload_n 0, 1) := by decide +kernel
theorem dX1_take_31 : decode cX1_take 31 = .ok (.iload_n 3, 1) := by decide +kernel
theorem dX1_take_32 : decode cX1_take 32 = .ok (.iconst 1, 1) := by decide +kernel
theorem dX1_take_33 : decode cX1_take 33 = .ok (.iadd, 1) := by decide +kernel
theorem dX1_take_34 : decode cX1_take 34 = .ok (.invokevirtual 23, 3) := by decide +kernel
theorem dX1_take_37 : decode cX1_take 37 = .ok (.invokevirtual 27, 3) := by decide +kernel
theorem dX1_take_40 : decode cX1_take 40 = .ok (.iinc 3 1, 3) := by decide +kernel
theorem dX1_take_43 : decode cX1_take 43 = .ok (.goto (-25), 3) := by decide +kernel
theorem dX1_take_46 : decode cX1_take 46 = .ok (.aload_n 0, 1) := by decide +kernel
theorem dX1_take_47 : decode cX1_take 47 = .ok (.dup, 1) := by decide +kernel
theorem dX1_take_48 : decode cX1_take 48 = .ok (.getfield 15, 3) := by decide +kernel
theorem dX1_take_51 : decode cX1_take 51 = .ok (.iconst 1, 1) := by decide +kernel
theorem dX1_take_52 : decode cX1_take 52 = .ok (.isub, 1) := by decide +kernel
theorem dX1_take_53 : decode cX1_take 53 = .ok (.putfield 15, 3) := by decide +kernel
theorem dX1_take_56 : decode cX1_take 56 = .ok (.iload_n 2, 1) := by decide +kernel
theorem dX1_take_57 : decode cX1_take 57 = .ok (.ireturn, 1) := by decide +kernel
set_option maxRecDepth 20000 in
theorem ggX1_cutFrom_X1_has : GoodIn wsX1_cutFrom wsX1_has := goodIn_r _ [6, 1, 7, 8, 9] (by decide +kernel) (by decide +kernel)
set_option maxRecDepth 20000 in
theorem gX1_cutFrom_X1_has : GoodIn wsX1_cutFrom (wsV RX1 19 RX1 yX1_has wsX1_has) := goodIn_app (goodIn_of _ (by decide +kernel)) ggX1_cutFrom_X1_has
theorem dX1_cutFrom_0 : decode cX1_cutFrom 0 = .ok (.aload_n 0, 1) := by decide +kernel
theorem dX1_cutFrom_1 : decode cX1_cutFrom 1 = .ok (.iload_n 1, 1) := by decide +kernel
theorem dX1_cutFrom_2 : decode cX1_cutFrom 2 = .ok (.invokevirtual 19, 3) := by decide +kernel
theorem dX1_cutFrom_5 : decode cX1_cutFrom 5 = .ok (.ifCond .eq 8, 3) := by decide +kernel
theorem dX1_cutFrom_8 : decode cX1_cutFrom 8 = .ok (.aload_n 0, 1) := by decide +kernel
theorem dX1_cutFrom_9 : decode cX1_cutFrom 9 = .ok (.iload_n 1, 1) := by decide +kernel
theorem dX1_cutFrom_10 : decode cX1_cutFrom 10 = .ok (.putfield 15, 3) := by decide +kernel
theorem dX1_cutFrom_13 : decode cX1_cutFrom 13 = .ok (.return_, 1) := by decide +kernel
set_option maxRecDepth 20000 in
theorem ggX1_refill_X1_put : GoodIn wsX1_refill wsX1_put := goodIn_r _ [7, 1, 8, 9, 10, 6, 11, 2, 12, 13] (by decide +kernel) (by decide +kernel)
set_option maxRecDepth 20000 in
theorem gX1_refill_X1_put : GoodIn wsX1_refill (wsV RX1 27 RX1 yX1_put wsX1_put) := goodIn_app (goodIn_of _ (by decide +kernel)) ggX1_refill_X1_put
theorem dX1_refill_0 : decode cX1_refill 0 = .ok (.aload_n 0, 1) := by decide +kernel
theorem dX1_refill_1 : decode cX1_refill 1 = .ok (.iload_n 1, 1) := by decide +kernel
theorem dX1_refill_2 : decode cX1_refill 2 = .ok (.ifCond .ge 7, 3) := by decide +kernel
theorem dX1_refill_5 : decode cX1_refill 5 = .ok (.iconst 0, 1) := by decide +kernel
theorem dX1_refill_6 : decode cX1_refill 6 = .ok (.goto 21, 3) := by decide +kernel
theorem dX1_refill_9 : decode cX1_refill 9 = .ok (.iload_n 1, 1) := by decide +kernel
theorem dX1_refill_10 : decode cX1_refill 10 = .ok (.aload_n 0, 1) := by decide +kernel
theorem dX1_refill_11 : decode cX1_refill 11 = .ok (.getfield 9, 3) := by decide +kernel
theorem dX1_refill_14 : decode cX1_refill 14 = .ok (.arraylength, 1) := by decide +kernel
theorem dX1_refill_15 : decode cX1_refill 15 = .ok (.if_icmp .le 11, 3) := by decide +kernel
theorem dX1_refill_18 : decode cX1_refill 18 = .ok (.aload_n 0, 1) := by decide +kernel
theorem dX1_refill_19 : decode cX1_refill 19 = .ok (.getfield 9, 3) := by decide +kernel
theorem dX1_refill_22 : decode cX1_refill 22 = .ok (.arraylength, 1) := by decide +kernel
theorem dX1_refill_23 : decode cX1_refill 23 = .ok (.goto 4, 3) := by decide +kernel
theorem dX1_refill_26 : decode cX1_refill 26 = .ok (.iload_n 1, 1) := by decide +kernel
theorem dX1_refill_27 : decode cX1_refill 27 = .ok (.putfield 15, 3) := by decide +kernel
theorem dX1_refill_30 : decode cX1_refill 30 = .ok (.iconst 0, 1) := by decide +kernel
theorem dX1_refill_31 : decode cX1_refill 31 = .ok (.istore_n 3, 1) := by decide +kernel
theorem dX1_refill_32 : decode cX1_refill 32 = .ok (.iload_n 3, 1) := by decide +kernel
theorem dX1_refill_33 : decode cX1_refill 33 = .ok (.aload_n 0, 1) := by decide +kernel
theorem dX1_refill_34 : decode cX1_refill 34 = .ok (.getfield 15, 3) := by decide +kernel
theorem dX1_refill_37 : decode cX1_refill 37 = .ok (.if_icmp .ge 15, 3) := by decide +kernel
theorem dX1_refill_40 : decode cX1_refill 40 = .ok (.aload_n 0, 1) := by decide +kernel
theorem dX1_refill_41 : decode cX1_refill 41 = .ok (.iload_n 3, 1) := by decide +kernel
theorem dX1_refill_42 : decode cX1_refill 42 = .ok (.iload_n 2, 1) := by decide +kernel
theorem dX1_refill_43 : decode cX1_refill 43 = .ok (.invokevirtual 27, 3) := by decide +kernel
theorem dX1_refill_46 : decode cX1_refill 46 = .ok (.iinc 3 1, 3) := by decide +kernel
theorem dX1_refill_49 : decode cX1_refill 49 = .ok (.goto (-17), 3) := by decide +kernel
theorem dX1_refill_52 : decode cX1_refill 52 = .ok (.return_, 1) := by decide +kernel
set_option maxRecDepth 20000 in
theorem ggX1_sum_X1_at : GoodIn wsX1_sum wsX1_at := goodIn_r _ [6, 1, 7, 8, 9] (by decide +kernel) (by decide +kernel)
set_option maxRecDepth 20000 in
theorem gX1_sum_X1_at : GoodIn wsX1_sum (wsV RX1 23 RX1 yX1_at wsX1_at) := goodIn_app (goodIn_of _ (by decide +kernel)) ggX1_sum_X1_at
theorem dX1_sum_0 : decode cX1_sum 0 = .ok (.iconst 0, 1) := by decide +kernel
theorem dX1_sum_1 : decode cX1_sum 1 = .ok (.istore_n 1, 1) := by decide +kernel
theorem dX1_sum_2 : decode cX1_sum 2 = .ok (.iconst 0, 1) := by decide +kernel
theorem dX1_sum_3 : decode cX1_sum 3 = .ok (.istore_n 2, 1) := by decide +kernel
theorem dX1_sum_4 : decode cX1_sum 4 = .ok (.iload_n 2, 1) := by decide +kernel
theorem dX1_sum_5 : decode cX1_sum 5 = .ok (.aload_n 0, 1) := by decide +kernel
theorem dX1_sum_6 : decode cX1_sum 6 = .ok (.getfield 15, 3) := by decide +kernel
theorem dX1_sum_9 : decode cX1_sum 9 = .ok (.if_icmp .ge 17, 3) := by decide +kernel
theorem dX1_sum_12 : decode cX1_sum 12 = .ok (.iload_n 1, 1) := by decide +kernel
theorem dX1_sum_13 : decode cX1_sum 13 = .ok (.aload_n 0, 1) := by decide +kernel
theorem dX1_sum_14 : decode cX1_sum 14 = .ok (.iload_n 2, 1) := by decide +kernel
theorem dX1_sum_15 : decode cX1_sum 15 = .ok (.invokevirtual 23, 3) := by decide +kernel
theorem dX1_sum_18 : decode cX1_sum 18 = .ok (.iadd, 1) := by decide +kernel
theorem dX1_sum_19 : decode cX1_sum 19 = .ok (.istore_n 1, 1) := by decide +kernel
theorem dX1_sum_20 : decode cX1_sum 20 = .ok (.iinc 2 1, 3) := by decide +kernel
theorem dX1_sum_23 : decode cX1_sum 23 = .ok (.goto (-19), 3) := by decide +kernel
theorem dX1_sum_26 : decode cX1_sum 26 = .ok (.iload_n 1, 1) := by decide +kernel
theorem dX1_sum_27 : decode cX1_sum 27 = .ok (.ireturn, 1) := by decide +kernel
set_option maxRecDepth 20000 in
theorem ggX1_greatest_X1_at : GoodIn wsX1_greatest wsX1_at := goodIn_r _ [10, 1, 11, 12, 13] (by decide +kernel) (by decide +kernel)
set_option maxRecDepth 20000 in
theorem gX1_greatest_X1_at : GoodIn wsX1_greatest (wsV RX1 23 RX1 yX1_at wsX1_at) := goodIn_app (goodIn_of _ (by decide +kernel)) ggX1_greatest_X1_at
theorem dX1_greatest_0 : decode cX1_greatest 0 = .ok (.iconst 0, 1) := by decide +kernel
theorem dX1_greatest_1 : decode cX1_greatest 1 = .ok (.istore_n 1, 1) := by decide +kernel
theorem dX1_greatest_2 : decode cX1_greatest 2 = .ok (.iconst 0, 1) := by decide +kernel
theorem dX1_greatest_3 : decode cX1_greatest 3 = .ok (.istore_n 2, 1) := by decide +kernel
theorem dX1_greatest_4 : decode cX1_greatest 4 = .ok (.iload_n 2, 1) := by decide +kernel
theorem dX1_greatest_5 : decode cX1_greatest 5 = .ok (.aload_n 0, 1) := by decide +kernel
theorem dX1_greatest_6 : decode cX1_greatest 6 = .ok (.getfield 15, 3) := by decide +kernel
theorem dX1_greatest_9 : decode cX1_greatest 9 = .ok (.if_icmp .ge 19, 3) := by decide +kernel
theorem dX1_greatest_12 : decode cX1_greatest 12 = .ok (.iload_n 1, 1) := by decide +kernel
theorem dX1_greatest_13 : decode cX1_greatest 13 = .ok (.aload_n 0, 1) := by decide +kernel
theorem dX1_greatest_14 : decode cX1_greatest 14 = .ok (.iload_n 2, 1) := by decide +kernel
theorem dX1_greatest_15 : decode cX1_greatest 15 = .ok (.invokevirtual 23, 3) := by decide +kernel
theorem dX1_greatest_18 : decode cX1_greatest 18 = .ok (.invokestatic 31, 3) := by decide +kernel
theorem dX1_greatest_21 : decode cX1_greatest 21 = .ok (.istore_n 1, 1) := by decide +kernel
theorem dX1_greatest_22 : decode cX1_greatest 22 = .ok (.iinc 2 1, 3) := by decide +kernel
theorem dX1_greatest_25 : decode cX1_greatest 25 = .ok (.goto (-21), 3) := by decide +kernel
theorem dX1_greatest_28 : decode cX1_greatest 28 = .ok (.iload_n 1, 1) := by decide +kernel
theorem dX1_greatest_29 : decode cX1_greatest 29 = .ok (.ireturn, 1) := by decide +kernel
theorem dX1_has_0 : decode cX1_has 0 = .ok (.iload_n 1, 1) := by decide +kernel
theorem dX1_has_1 : decode cX1_has 1 = .ok (.ifCond .lt 24, 3) := by decide +kernel
theorem dX1_has_4 : decode cX1_has 4 = .ok (.iload_n 1, 1) := by decide +kernel
theorem dX1_has_5 : decode cX1_has 5 = .ok (.aload_n 0, 1) := by decide +kernel
theorem dX1_has_6 : decode cX1_has 6 = .ok (.getfield 15, 3) := by decide +kernel
theorem dX1_has_9 : decode cX1_has 9 = .ok (.if_icmp .ge 16, 3) := by decide +kernel
theorem dX1_has_12 : decode cX1_has 12 = .ok (.iload_n 1, 1) := by decide +kernel
theorem dX1_has_13 : decode cX1_has 13 = .ok (.aload_n 0, 1) := by decide +kernel
theorem dX1_has_14 : decode cX1_has 14 = .ok (.getfield 9, 3) := by decide +kernel
theorem dX1_has_17 : decode cX1_has 17 = .ok (.arraylength, 1) := by decide +kernel
theorem dX1_has_18 : decode cX1_has 18 = .ok (.if_icmp .ge 7, 3) := by decide +kernel
theorem dX1_has_21 : decode cX1_has 21 = .ok (.iconst 1, 1) := by decide +kernel
theorem dX1_has_22 : decode cX1_has 22 = .ok (.goto 4, 3) := by decide +kernel
theorem dX1_has_25 : decode cX1_has 25 = .ok (.iconst 0, 1) := by decide +kernel
theorem dX1_has_26 : decode cX1_has 26 = .ok (.ireturn, 1) := by decide +kernel
set_option maxRecDepth 20000 in
theorem ggX2_init_X1_init : GoodIn wsX2_init wsX1_init := goodIn_r _ [17, 18, 2, 3, 19, 20, 21, 22, 23] (by decide +kernel) (by decide +kernel)
set_option maxRecDepth 20000 in
theorem gX2_init_X1_init_n11 : GoodIn wsX2_init (wsX1_init) := ggX2_init_X1_init
theorem dX2_init_0 : decode cX2_init 0 = .ok (.aload_n 0, 1) := by decide +kernel
theorem dX2_init_1 : decode cX2_init 1 = .ok (.invokespecial 3, 3) := by decide +kernel
theorem dX2_init_4 : decode cX2_init 4 = .ok (.aload_n 0, 1) := by decide +kernel
theorem dX2_init_5 : decode cX2_init 5 = .ok (.new 9, 3) := by decide +kernel
theorem dX2_init_8 : decode cX2_init 8 = .ok (.dup, 1) := by decide +kernel
theorem dX2_init_9 : decode cX2_init 9 = .ok (.invokespecial 11, 3) := by decide +kernel
theorem dX2_init_12 : decode cX2_init 12 = .ok (.putfield 12, 3) := by decide +kernel
theorem dX2_init_15 : decode cX2_init 15 = .ok (.aload_n 0, 1) := by decide +kernel
theorem dX2_init_16 : decode cX2_init 16 = .ok (.new 9, 3) := by decide +kernel
theorem dX2_init_19 : decode cX2_init 19 = .ok (.dup, 1) := by decide +kernel
theorem dX2_init_20 : decode cX2_init 20 = .ok (.invokespecial 11, 3) := by decide +kernel
theorem dX2_init_23 : decode cX2_init 23 = .ok (.putfield 18, 3) := by decide +kernel
theorem dX2_init_26 : decode cX2_init 26 = .ok (.aload_n 0, 1) := by decide +kernel
theorem dX2_init_27 : decode cX2_init 27 = .ok (.new 9, 3) := by decide +kernel
theorem dX2_init_30 : decode cX2_init 30 = .ok (.dup, 1) := by decide +kernel
theorem dX2_init_31 : decode cX2_init 31 = .ok (.invokespecial 11, 3) := by decide +kernel
theorem dX2_init_34 : decode cX2_init 34 = .ok (.putfield 21, 3) := by decide +kernel
theorem dX2_init_37 : decode cX2_init 37 = .ok (.aload_n 0, 1) := by decide +kernel
theorem dX2_init_38 : decode cX2_init 38 = .ok (.new 9, 3) := by decide +kernel
theorem dX2_init_41 : decode cX2_init 41 = .ok (.dup, 1) := by decide +kernel
theorem dX2_init_42 : decode cX2_init 42 = .ok (.invokespecial 11, 3) := by decide +kernel
theorem dX2_init_45 : decode cX2_init 45 = .ok (.putfield 24, 3) := by decide +kernel
theorem dX2_init_48 : decode cX2_init 48 = .ok (.aload_n 0, 1) := by decide +kernel
theorem dX2_init_49 : decode cX2_init 49 = .ok (.new 9, 3) := by decide +kernel
theorem dX2_init_52 : decode cX2_init 52 = .ok (.dup, 1) := by decide +kernel
theorem dX2_init_53 : decode cX2_init 53 = .ok (.invokespecial 11, 3) := by decide +kernel
theorem dX2_init_56 : decode cX2_init 56 = .ok (.putfield 27, 3) := by decide +kernel
theorem dX2_init_59 : decode cX2_init 59 = .ok (.aload_n 0, 1) := by decide +kernel
theorem dX2_init_60 : decode cX2_init 60 = .ok (.iconst (-1), 1) := by decide +kernel
theorem dX2_init_61 : decode cX2_init 61 = .ok (.putfield 30, 3) := by decide +kernel
theorem dX2_init_64 : decode cX2_init 64 = .ok (.aload_n 0, 1) := by decide +kernel
theorem dX2_init_65 : decode cX2_init 65 = .ok (.iconst 0, 1) := by decide +kernel
theorem dX2_init_66 : decode cX2_init 66 = .ok (.putfield 34, 3) := by decide +kernel
theorem dX2_init_69 : decode cX2_init 69 = .ok (.aload_n 0, 1) := by decide +kernel
theorem dX2_init_70 : decode cX2_init 70 = .ok (.iconst 0, 1) := by decide +kernel
theorem dX2_init_71 : decode cX2_init 71 = .ok (.putfield 37, 3) := by decide +kernel
theorem dX2_init_74 : decode cX2_init 74 = .ok (.aload_n 0, 1) := by decide +kernel
theorem dX2_init_75 : decode cX2_init 75 = .ok (.aload_n 1, 1) := by decide +kernel
theorem dX2_init_76 : decode cX2_init 76 = .ok (.putfield 40, 3) := by decide +kernel
theorem dX2_init_79 : decode cX2_init 79 = .ok (.return_, 1) := by decide +kernel
set_option maxRecDepth 20000 in
theorem ggX2_runForAll_X2_start : GoodIn wsX2_runForAll wsX2_start := goodIn_r _ [5, 6, 7, 8, 9, 10, 11, 12, 13, 14, 15, 16, 17, 18, 19, 20, 21, 22, 23, 24, 25, 26, 27, 28, 29, 30, 31, 32, 33, 34, 35, 36, 37, 38, 39, 94, 95, 96, 97, 98, 99, 100, 101, 102, 103, 104, 105, 106, 107] (by decide +kernel) (by decide +kernel)
set_option maxRecDepth 20000 in
theorem gX2_runForAll_X2_start : GoodIn wsX2_runForAll (wsV RX2 44 RX2 yX2_start wsX2_start) := goodIn_app (goodIn_of _ (by decide +kernel)) ggX2_runForAll_X2_start
set_option maxRecDepth 20000 in
theorem ggX2_runForAll_X2_runRounds : GoodIn wsX2_runForAll wsX2_runRounds := goodIn_r _ [43, 8, 13, 44, 45, 46, 24, 47, 26, 31, 48, 49, 50, 4, 51, 10, 52, 22, 23, 25, 53, 54, 55, 56, 57, 58, 59, 60, 61, 62, 63, 64, 12, 11, 6, 65, 66, 67, 18, 68, 69, 70, 71, 72, 73, 74, 20, 75, 76, 33, 34, 35, 36, 37, 38, 39, 77, 78, 79, 80, 81, 82, 83, 84, 85, 86, 87, 88, 7, 9, 14, 89, 90, 91, 92, 93, 94, 95, 96, 97, 98, 99, 100, 101, 102, 106, 107, 103, 104, 105] (by decide +kernel) (by decide +kernel)
set_option maxRecDepth 20000 in
theorem gX2_runForAll_X2_runRounds : GoodIn wsX2_runForAll (wsV RX2 47 RX2 yX2_runRounds wsX2_runRounds) := goodIn_app (goodIn_of _ (by decide +kernel)) ggX2_runForAll_X2_runRounds
theorem dX2_runForAll_0 : decode cX2_runForAll 0 = .ok (.aload_n 0, 1) := by decide +kernel
theorem dX2_runForAll_1 : decode cX2_runForAll 1 = .ok (.invokevirtual 44, 3) := by decide +kernel
theorem dX2_runForAll_4 : decode cX2_runForAll 4 = .ok (.aload_n 0, 1) := by decide +kernel
theorem dX2_runForAll_5 : decode cX2_runForAll 5 = .ok (.invokevirtual 47, 3) := by decide +kernel
theorem dX2_runForAll_8 : decode cX2_runForAll 8 = .ok (.return_, 1) := by decide +kernel
set_option maxRecDepth 20000 in
theorem ggX2_hutFor_X1_at : GoodIn wsX2_hutFor wsX1_at := goodIn_r _ [6, 7, 8, 18, 19] (by decide +kernel) (by decide +kernel)
set_option maxRecDepth 20000 in
theorem gX2_hutFor_X1_at : GoodIn wsX2_hutFor (wsV RX2 63 RX1 yX1_at wsX1_at) := goodIn_app (goodIn_of _ (by decide +kernel)) ggX2_hutFor_X1_at
theorem dX2_hutFor_0 : decode cX2_hutFor 0 = .ok (.aload_n 0, 1) := by decide +kernel
theorem dX2_hutFor_1 : decode cX2_hutFor 1 = .ok (.getfield 12, 3) := by decide +kernel
theorem dX2_hutFor_4 : decode cX2_hutFor 4 = .ok (.iload_n 1, 1) := by decide +kernel
theorem dX2_hutFor_5 : decode cX2_hutFor 5 = .ok (.invokevirtual 63, 3) := by decide +kernel
theorem dX2_hutFor_8 : decode cX2_hutFor 8 = .ok (.ireturn, 1) := by decide +kernel
set_option maxRecDepth 20000 in
theorem ggX2_roundOf_X1_at : GoodIn wsX2_roundOf wsX1_at := goodIn_r _ [6, 7, 8, 18, 19] (by decide +kernel) (by decide +kernel)
set_option maxRecDepth 20000 in
theorem gX2_roundOf_X1_at : GoodIn wsX2_roundOf (wsV RX2 63 RX1 yX1_at wsX1_at) := goodIn_app (goodIn_of _ (by decide +kernel)) ggX2_roundOf_X1_at
theorem dX2_roundOf_0 : decode cX2_roundOf 0 = .ok (.aload_n 0, 1) := by decide +kernel
theorem dX2_roundOf_1 : decode cX2_roundOf 1 = .ok (.getfield 18, 3) := by decide +kernel
theorem dX2_roundOf_4 : decode cX2_roundOf 4 = .ok (.iload_n 1, 1) := by decide +kernel
theorem dX2_roundOf_5 : decode cX2_roundOf 5 = .ok (.invokevirtual 63, 3) := by decide +kernel
theorem dX2_roundOf_8 : decode cX2_roundOf 8 = .ok (.ireturn, 1) := by decide +kernel
set_option maxRecDepth 20000 in
theorem ggX2_ringSizeOf_X1_at : GoodIn wsX2_ringSizeOf wsX1_at := goodIn_r _ [6, 7, 8, 18, 19] (by decide +kernel) (by decide +kernel)
set_option maxRecDepth 20000 in
theorem gX2_ringSizeOf_X1_at : GoodIn wsX2_ringSizeOf (wsV RX2 63 RX1 yX1_at wsX1_at) := goodIn_app (goodIn_of _ (by decide +kernel)) ggX2_ringSizeOf_X1_at
theorem dX2_ringSizeOf_0 : decode cX2_ringSizeOf 0 = .ok (.aload_n 0, 1) := by decide +kernel
theorem dX2_ringSizeOf_1 : decode cX2_ringSizeOf 1 = .ok (.getfield 21, 3) := by decide +kernel
theorem dX2_ringSizeOf_4 : decode cX2_ringSizeOf 4 = .ok (.iload_n 1, 1) := by decide +kernel
theorem dX2_ringSizeOf_5 : decode cX2_ringSizeOf 5 = .ok (.invokevirtual 63, 3) := by decide +kernel
theorem dX2_ringSizeOf_8 : decode cX2_ringSizeOf 8 = .ok (.ireturn, 1) := by decide +kernel
theorem dX2_rounds_0 : decode cX2_rounds 0 = .ok (.aload_n 0, 1) := by decide +kernel
theorem dX2_rounds_1 : decode cX2_rounds 1 = .ok (.getfield 34, 3) := by decide +kernel
theorem dX2_rounds_4 : decode cX2_rounds 4 = .ok (.ireturn, 1) := by decide +kernel
theorem dX2_ringsOfMore_0 : decode cX2_ringsOfMore 0 = .ok (.aload_n 0, 1) := by decide +kernel
theorem dX2_ringsOfMore_1 : decode cX2_ringsOfMore 1 = .ok (.getfield 37, 3) := by decide +kernel
theorem dX2_ringsOfMore_4 : decode cX2_ringsOfMore 4 = .ok (.ireturn, 1) := by decide +kernel
set_option maxRecDepth 20000 in
theorem ggX2_greatestRing_X1_greatest : GoodIn wsX2_greatestRing wsX1_greatest := goodIn_r _ [6, 7, 8, 9, 10, 11, 12, 13, 14, 5, 15, 16, 26, 27] (by decide +kernel) (by decide +kernel)
set_option maxRecDepth 20000 in
theorem gX2_greatestRing_X1_greatest : GoodIn wsX2_greatestRing (wsV RX2 66 RX1 yX1_greatest wsX1_greatest) := goodIn_app (goodIn_of _ (by decide +kernel)) ggX2_greatestRing_X1_greatest
theorem dX2_greatestRing_0 : decode cX2_greatestRing 0 = .ok (.aload_n 0, 1) := by decide +kernel
theorem dX2_greatestRing_1 : decode cX2_greatestRing 1 = .ok (.getfield 21, 3) := by decide +kernel
theorem dX2_greatestRing_4 : decode cX2_greatestRing 4 = .ok (.invokevirtual 66, 3) := by decide +kernel
theorem dX2_greatestRing_7 : decode cX2_greatestRing 7 = .ok (.ireturn, 1) := by decide +kernel
set_option maxRecDepth 20000 in
theorem ggX2_roundsAdded_X1_sum : GoodIn wsX2_roundsAdded wsX1_sum := goodIn_r _ [6, 7, 8, 9, 10, 5, 11, 12, 22, 23] (by decide +kernel) (by decide +kernel)
set_option maxRecDepth 20000 in
theorem gX2_roundsAdded_X1_sum : GoodIn wsX2_roundsAdded (wsV RX2 70 RX1 yX1_sum wsX1_sum) := goodIn_app (goodIn_of _ (by decide +kernel)) ggX2_roundsAdded_X1_sum
theorem dX2_roundsAdded_0 : decode cX2_roundsAdded 0 = .ok (.aload_n 0, 1) := by decide +kernel
theorem dX2_roundsAdded_1 : decode cX2_roundsAdded 1 = .ok (.getfield 18, 3) := by decide +kernel
theorem dX2_roundsAdded_4 : decode cX2_roundsAdded 4 = .ok (.invokevirtual 70, 3) := by decide +kernel
theorem dX2_roundsAdded_7 : decode cX2_roundsAdded 7 = .ok (.ireturn, 1) := by decide +kernel
set_option maxRecDepth 20000 in
theorem ggX2_isThereIn_X1_at : GoodIn wsX2_isThereIn wsX1_at := goodIn_r _ [6, 7, 8, 18, 19] (by decide +kernel) (by decide +kernel)
set_option maxRecDepth 20000 in
theorem gX2_isThereIn_X1_at : GoodIn wsX2_isThereIn (wsV RX2 63 RX1 yX1_at wsX1_at) := goodIn_app (goodIn_of _ (by decide +kernel)) ggX2_isThereIn_X1_at
theorem dX2_isThereIn_0 : decode cX2_isThereIn 0 = .ok (.aload_n 0, 1) := by decide +kernel
theorem dX2_isThereIn_1 : decode cX2_isThereIn 1 = .ok (.getfield 18, 3) := by decide +kernel
theorem dX2_isThereIn_4 : decode cX2_isThereIn 4 = .ok (.iload_n 1, 1) := by decide +kernel
theorem dX2_isThereIn_5 : decode cX2_isThereIn 5 = .ok (.invokevirtual 63, 3) := by decide +kernel
theorem dX2_isThereIn_8 : decode cX2_isThereIn 8 = .ok (.istore_n 3, 1) := by decide +kernel
theorem dX2_isThereIn_9 : decode cX2_isThereIn 9 = .ok (.iload_n 3, 1) := by decide +kernel
theorem dX2_isThereIn_10 : decode cX2_isThereIn 10 = .ok (.ifCond .eq 8, 3) := by decide +kernel
theorem dX2_isThereIn_13 : decode cX2_isThereIn 13 = .ok (.iload_n 3, 1) := by decide +kernel
theorem dX2_isThereIn_14 : decode cX2_isThereIn 14 = .ok (.iload_n 2, 1) := by decide +kernel
theorem dX2_isThereIn_15 : decode cX2_isThereIn 15 = .ok (.if_icmp .lt 7, 3) := by decide +kernel
theorem dX2_isThereIn_18 : decode cX2_isThereIn 18 = .ok (.iconst 1, 1) := by decide +kernel
theorem dX2_isThereIn_19 : decode cX2_isThereIn 19 = .ok (.goto 4, 3) := by decide +kernel
theorem dX2_isThereIn_22 : decode cX2_isThereIn 22 = .ok (.iconst 0, 1) := by decide +kernel
theorem dX2_isThereIn_23 : decode cX2_isThereIn 23 = .ok (.ireturn, 1) := by decide +kernel
set_option maxRecDepth 20000 in
theorem ggX2_aimIn_X0_likesOf : GoodIn wsX2_aimIn wsX0_likesOf := goodIn_r _ [8, 9, 10, 46, 47, 48] (by decide +kernel) (by decide +kernel)
set_option maxRecDepth 20000 in
theorem gX2_aimIn_X0_likesOf : GoodIn wsX2_aimIn (wsV RX2 73 RX0 yX0_likesOf wsX0_likesOf) := goodIn_app (goodIn_of _ (by decide +kernel)) ggX2_aimIn_X0_likesOf
set_option maxRecDepth 20000 in
theorem ggX2_aimIn_X1_size : GoodIn wsX2_aimIn wsX1_size := goodIn_r _ [15, 16, 49, 50] (by decide +kernel) (by decide +kernel)
set_option maxRecDepth 20000 in
theorem gX2_aimIn_X1_size : GoodIn wsX2_aimIn (wsV RX2 77 RX1 yX1_size wsX1_size) := goodIn_app (goodIn_of _ (by decide +kernel)) ggX2_aimIn_X1_size
set_option maxRecDepth 20000 in
theorem ggX2_aimIn_X1_at : GoodIn wsX2_aimIn wsX1_at := goodIn_r _ [20, 16, 21, 49, 50] (by decide +kernel) (by decide +kernel)
set_option maxRecDepth 20000 in
theorem gX2_aimIn_X1_at : GoodIn wsX2_aimIn (wsV RX2 63 RX1 yX1_at wsX1_at) := goodIn_app (goodIn_of _ (by decide +kernel)) ggX2_aimIn_X1_at
set_option maxRecDepth 20000 in
theorem ggX2_aimIn_X0_keeperIn : GoodIn wsX2_aimIn wsX0_keeperIn := goodIn_r _ [25, 26, 27, 28, 29, 14, 30, 16, 21, 46, 47, 48, 49, 50] (by decide +kernel) (by decide +kernel)
set_option maxRecDepth 20000 in
theorem gX2_aimIn_X0_keeperIn : GoodIn wsX2_aimIn (wsV RX2 80 RX0 yX0_keeperIn wsX0_keeperIn) := goodIn_app (goodIn_of _ (by decide +kernel)) ggX2_aimIn_X0_keeperIn
set_option maxRecDepth 20000 in
theorem ggX2_aimIn_X2_isThereIn : GoodIn wsX2_aimIn wsX2_isThereIn := goodIn_r _ [35, 36, 17, 18, 19, 14, 20, 16, 21, 37, 38, 39, 40, 41, 42, 43, 44, 45, 49, 50] (by decide +kernel) (by decide +kernel)
set_option maxRecDepth 20000 in
theorem gX2_aimIn_X2_isThereIn : GoodIn wsX2_aimIn (wsV RX2 83 RX2 yX2_isThereIn wsX2_isThereIn) := goodIn_app (goodIn_of _ (by decide +kernel)) ggX2_aimIn_X2_isThereIn
theorem dX2_aimIn_0 : decode cX2_aimIn 0 = .ok (.iload_n 1, 1) := by decide +kernel
theorem dX2_aimIn_1 : decode cX2_aimIn 1 = .ok (.aload_n 0, 1) := by decide +kernel
theorem dX2_aimIn_2 : decode cX2_aimIn 2 = .ok (.getfield 30, 3) := by decide +kernel
theorem dX2_aimIn_5 : decode cX2_aimIn 5 = .ok (.if_icmp .ne 10, 3) := by decide +kernel
theorem dX2_aimIn_8 : decode cX2_aimIn 8 = .ok (.aload_n 0, 1) := by decide +kernel
theorem dX2_aimIn_9 : decode cX2_aimIn 9 = .ok (.getfield 27, 3) := by decide +kernel
theorem dX2_aimIn_12 : decode cX2_aimIn 12 = .ok (.goto 11, 3) := by decide +kernel
theorem dX2_aimIn_15 : decode cX2_aimIn 15 = .ok (.aload_n 0, 1) := by decide +kernel
theorem dX2_aimIn_16 : decode cX2_aimIn 16 = .ok (.getfield 40, 3) := by decide +kernel
theorem dX2_aimIn_19 : decode cX2_aimIn 19 = .ok (.iload_n 1, 1) := by decide +kernel
theorem dX2_aimIn_20 : decode cX2_aimIn 20 = .ok (.invokevirtual 73, 3) := by decide +kernel
theorem dX2_aimIn_23 : decode cX2_aimIn 23 = .ok (.astore_n 3, 1) := by decide +kernel
theorem dX2_aimIn_24 : decode cX2_aimIn 24 = .ok (.iconst 0, 1) := by decide +kernel
theorem dX2_aimIn_25 : decode cX2_aimIn 25 = .ok (.istore 4, 2) := by decide +kernel
theorem dX2_aimIn_27 : decode cX2_aimIn 27 = .ok (.iload 4, 2) := by decide +kernel
theorem dX2_aimIn_29 : decode cX2_aimIn 29 = .ok (.aload_n 3, 1) := by decide +kernel
theorem dX2_aimIn_30 : decode cX2_aimIn 30 = .ok (.invokevirtual 77, 3) := by decide +kernel
theorem dX2_aimIn_33 : decode cX2_aimIn 33 = .ok (.if_icmp .ge 37, 3) := by decide +kernel
theorem dX2_aimIn_36 : decode cX2_aimIn 36 = .ok (.aload_n 0, 1) := by decide +kernel
theorem dX2_aimIn_37 : decode cX2_aimIn 37 = .ok (.getfield 40, 3) := by decide +kernel
theorem dX2_aimIn_40 : decode cX2_aimIn 40 = .ok (.aload_n 3, 1) := by decide +kernel
theorem dX2_aimIn_41 : decode cX2_aimIn 41 = .ok (.iload 4, 2) := by decide +kernel
theorem dX2_aimIn_43 : decode cX2_aimIn 43 = .ok (.invokevirtual 63, 3) := by decide +kernel
theorem dX2_aimIn_46 : decode cX2_aimIn 46 = .ok (.invokevirtual 80, 3) := by decide +kernel
theorem dX2_aimIn_49 : decode cX2_aimIn 49 = .ok (.istore 5, 2) := by decide +kernel
theorem dX2_aimIn_51 : decode cX2_aimIn 51 = .ok (.aload_n 0, 1) := by decide +kernel
theorem dX2_aimIn_52 : decode cX2_aimIn 52 = .ok (.iload 5, 2) := by decide +kernel
theorem dX2_aimIn_54 : decode cX2_aimIn 54 = .ok (.iload_n 2, 1) := by decide +kernel
theorem dX2_aimIn_55 : decode cX2_aimIn 55 = .ok (.invokevirtual 83, 3) := by decide +kernel
theorem dX2_aimIn_58 : decode cX2_aimIn 58 = .ok (.ifCond .eq 6, 3) := by decide +kernel
theorem dX2_aimIn_61 : decode cX2_aimIn 61 = .ok (.iload 5, 2) := by decide +kernel
theorem dX2_aimIn_63 : decode cX2_aimIn 63 = .ok (.ireturn, 1) := by decide +kernel
theorem dX2_aimIn_64 : decode cX2_aimIn 64 = .ok (.iinc 4 1, 3) := by decide +kernel
theorem dX2_aimIn_67 : decode cX2_aimIn 67 = .ok (.goto (-40), 3) := by decide +kernel
theorem dX2_aimIn_70 : decode cX2_aimIn 70 = .ok (.iload_n 1, 1) := by decide +kernel
theorem dX2_aimIn_71 : decode cX2_aimIn 71 = .ok (.ireturn, 1) := by decide +kernel
set_option maxRecDepth 20000 in
theorem ggX2_start_X0_size : GoodIn wsX2_start wsX0_size := goodIn_r _ [14, 15, 16, 17, 18, 19, 20, 21, 44, 45, 46, 47, 48] (by decide +kernel) (by decide +kernel)
set_option maxRecDepth 20000 in
theorem gX2_start_X0_size : GoodIn wsX2_start (wsV RX2 87 RX0 yX0_size wsX0_size) := goodIn_app (goodIn_of _ (by decide +kernel)) ggX2_start_X0_size
set_option maxRecDepth 20000 in
theorem ggX2_start_X1_refill : GoodIn wsX2_start wsX1_refill := goodIn_r _ [25, 26, 21, 27, 28, 29, 19, 30, 31, 32, 33, 34, 47, 48] (by decide +kernel) (by decide +kernel)
set_option maxRecDepth 20000 in
theorem gX2_start_X1_refill : GoodIn wsX2_start (wsV RX2 88 RX1 yX1_refill wsX1_refill) := goodIn_app (goodIn_of _ (by decide +kernel)) ggX2_start_X1_refill
theorem dX2_start_0 : decode cX2_start 0 = .ok (.aload_n 0, 1) := by decide +kernel
theorem dX2_start_1 : decode cX2_start 1 = .ok (.getfield 40, 3) := by decide +kernel
theorem dX2_start_4 : decode cX2_start 4 = .ok (.invokevirtual 87, 3) := by decide +kernel
theorem dX2_start_7 : decode cX2_start 7 = .ok (.istore_n 1, 1) := by decide +kernel
theorem dX2_start_8 : decode cX2_start 8 = .ok (.aload_n 0, 1) := by decide +kernel
theorem dX2_start_9 : decode cX2_start 9 = .ok (.getfield 12, 3) := by decide +kernel
theorem dX2_start_12 : decode cX2_start 12 = .ok (.iload_n 1, 1) := by decide +kernel
theorem dX2_start_13 : decode cX2_start 13 = .ok (.iconst (-1), 1) := by decide +kernel
theorem dX2_start_14 : decode cX2_start 14 = .ok (.invokevirtual 88, 3) := by decide +kernel
theorem dX2_start_17 : decode cX2_start 17 = .ok (.aload_n 0, 1) := by decide +kernel
theorem dX2_start_18 : decode cX2_start 18 = .ok (.getfield 18, 3) := by decide +kernel
theorem dX2_start_21 : decode cX2_start 21 = .ok (.iload_n 1, 1) := by decide +kernel
theorem dX2_start_22 : decode cX2_start 22 = .ok (.iconst 0, 1) := by decide +kernel
theorem dX2_start_23 : decode cX2_start 23 = .ok (.invokevirtual 88, 3) := by decide +kernel
theorem dX2_start_26 : decode cX2_start 26 = .ok (.aload_n 0, 1) := by decide +kernel
theorem dX2_start_27 : decode cX2_start 27 = .ok (.getfield 21, 3) := by decide +kernel
theorem dX2_start_30 : decode cX2_start 30 = .ok (.iload_n 1, 1) := by decide +kernel
theorem dX2_start_31 : decode cX2_start 31 = .ok (.iconst 0, 1) := by decide +kernel
theorem dX2_start_32 : decode cX2_start 32 = .ok (.invokevirtual 88, 3) := by decide +kernel
theorem dX2_start_35 : decode cX2_start 35 = .ok (.aload_n 0, 1) := by decide +kernel
theorem dX2_start_36 : decode cX2_start 36 = .ok (.getfield 24, 3) := by decide +kernel
theorem dX2_start_39 : decode cX2_start 39 = .ok (.iload_n 1, 1) := by decide +kernel
theorem dX2_start_40 : decode cX2_start 40 = .ok (.iconst (-1), 1) := by decide +kernel
theorem dX2_start_41 : decode cX2_start 41 = .ok (.invokevirtual 88, 3) := by decide +kernel
theorem dX2_start_44 : decode cX2_start 44 = .ok (.aload_n 0, 1) := by decide +kernel
theorem dX2_start_45 : decode cX2_start 45 = .ok (.getfield 27, 3) := by decide +kernel
theorem dX2_start_48 : decode cX2_start 48 = .ok (.iconst 0, 1) := by decide +kernel
theorem dX2_start_49 : decode cX2_start 49 = .ok (.iconst (-1), 1) := by decide +kernel
theorem dX2_start_50 : decode cX2_start 50 = .ok (.invokevirtual 88, 3) := by decide +kernel
theorem dX2_start_53 : decode cX2_start 53 = .ok (.aload_n 0, 1) := by decide +kernel
theorem dX2_start_54 : decode cX2_start 54 = .ok (.iconst (-1), 1) := by decide +kernel
theorem dX2_start_55 : decode cX2_start 55 = .ok (.putfield 30, 3) := by decide +kernel
theorem dX2_start_58 : decode cX2_start 58 = .ok (.aload_n 0, 1) := by decide +kernel
theorem dX2_start_59 : decode cX2_start 59 = .ok (.iconst 0, 1) := by decide +kernel
theorem dX2_start_60 : decode cX2_start 60 = .ok (.putfield 34, 3) := by decide +kernel
theorem dX2_start_63 : decode cX2_start 63 = .ok (.aload_n 0, 1) := by decide +kernel
theorem dX2_start_64 : decode cX2_start 64 = .ok (.iconst 0, 1) := by decide +kernel
theorem dX2_start_65 : decode cX2_start 65 = .ok (.putfield 37, 3) := by decide +kernel
theorem dX2_start_68 : decode cX2_start 68 = .ok (.return_, 1) := by decide +kernel
set_option maxRecDepth 20000 in
theorem ggX2_runRounds_X1_placeOf : GoodIn wsX2_runRounds wsX1_placeOf := goodIn_r _ [7, 8, 9, 85, 86] (by decide +kernel) (by decide +kernel)
set_option maxRecDepth 20000 in
theorem gX2_runRounds_X1_placeOf : GoodIn wsX2_runRounds (wsV RX2 91 RX1 yX1_placeOf wsX1_placeOf) := goodIn_app (goodIn_of _ (by decide +kernel)) ggX2_runRounds_X1_placeOf
set_option maxRecDepth 20000 in
theorem ggX2_runRounds_X2_aimAll : GoodIn wsX2_runRounds wsX2_aimAll := goodIn_r _ [14, 15, 16, 17, 18, 6, 19, 8, 20, 21, 22, 13, 23, 1, 24, 25, 26, 27, 9, 28, 29, 30, 31, 32, 33, 34, 35, 36, 37, 38, 39, 40, 41, 42, 43, 44, 45, 46, 47, 4, 5, 7, 48, 49, 50, 51, 52, 53, 54, 55, 76, 77, 78, 79, 80, 81, 82, 83, 84, 85, 86, 87, 88, 89] (by decide +kernel) (by decide +kernel)
set_option maxRecDepth 20000 in
theorem gX2_runRounds_X2_aimAll : GoodIn wsX2_runRounds (wsV RX2 94 RX2 yX2_aimAll wsX2_aimAll) := goodIn_app (goodIn_of _ (by decide +kernel)) ggX2_runRounds_X2_aimAll
set_option maxRecDepth 20000 in
theorem ggX2_runRounds_X2_closeRings : GoodIn wsX2_runRounds wsX2_closeRings := goodIn_r _ [59, 15, 1, 16, 17, 18, 6, 19, 8, 24, 25, 26, 27, 9, 60, 61, 62, 13, 63, 64, 65, 66, 67, 68, 34, 69, 70, 71, 72, 73, 38, 74, 46, 75, 48, 49, 50, 51, 52, 53, 54, 55, 76, 77, 78, 79, 80, 81, 82, 83, 84, 85, 86, 87, 88, 89] (by decide +kernel) (by decide +kernel)
set_option maxRecDepth 20000 in
theorem gX2_runRounds_X2_closeRings : GoodIn wsX2_runRounds (wsV RX2 98 RX2 yX2_closeRings wsX2_closeRings) := goodIn_app (goodIn_of _ (by decide +kernel)) ggX2_runRounds_X2_closeRings
theorem dX2_runRounds_0 : decode cX2_runRounds 0 = .ok (.iconst 1, 1) := by decide +kernel
theorem dX2_runRounds_1 : decode cX2_runRounds 1 = .ok (.istore_n 1, 1) := by decide +kernel
theorem dX2_runRounds_2 : decode cX2_runRounds 2 = .ok (.iload_n 1, 1) := by decide +kernel
theorem dX2_runRounds_3 : decode cX2_runRounds 3 = .ok (.bipush 10, 2) := by decide +kernel
theorem dX2_runRounds_5 : decode cX2_runRounds 5 = .ok (.if_icmp .gt 36, 3) := by decide +kernel
theorem dX2_runRounds_8 : decode cX2_runRounds 8 = .ok (.aload_n 0, 1) := by decide +kernel
theorem dX2_runRounds_9 : decode cX2_runRounds 9 = .ok (.getfield 18, 3) := by decide +kernel
theorem dX2_runRounds_12 : decode cX2_runRounds 12 = .ok (.iconst 0, 1) := by decide +kernel
theorem dX2_runRounds_13 : decode cX2_runRounds 13 = .ok (.invokevirtual 91, 3) := by decide +kernel
theorem dX2_runRounds_16 : decode cX2_runRounds 16 = .ok (.iconst (-1), 1) := by decide +kernel
theorem dX2_runRounds_17 : decode cX2_runRounds 17 = .ok (.if_icmp .eq 24, 3) := by decide +kernel
theorem dX2_runRounds_20 : decode cX2_runRounds 20 = .ok (.aload_n 0, 1) := by decide +kernel
theorem dX2_runRounds_21 : decode cX2_runRounds 21 = .ok (.iload_n 1, 1) := by decide +kernel
theorem dX2_runRounds_22 : decode cX2_runRounds 22 = .ok (.putfield 34, 3) := by decide +kernel
theorem dX2_runRounds_25 : decode cX2_runRounds 25 = .ok (.aload_n 0, 1) := by decide +kernel
theorem dX2_runRounds_26 : decode cX2_runRounds 26 = .ok (.iload_n 1, 1) := by decide +kernel
theorem dX2_runRounds_27 : decode cX2_runRounds 27 = .ok (.invokevirtual 94, 3) := by decide +kernel
theorem dX2_runRounds_30 : decode cX2_runRounds 30 = .ok (.aload_n 0, 1) := by decide +kernel
theorem dX2_runRounds_31 : decode cX2_runRounds 31 = .ok (.iload_n 1, 1) := by decide +kernel
theorem dX2_runRounds_32 : decode cX2_runRounds 32 = .ok (.invokevirtual 98, 3) := by decide +kernel
theorem dX2_runRounds_35 : decode cX2_runRounds 35 = .ok (.iinc 1 1, 3) := by decide +kernel
theorem dX2_runRounds_38 : decode cX2_runRounds 38 = .ok (.goto (-36), 3) := by decide +kernel
theorem dX2_runRounds_41 : decode cX2_runRounds 41 = .ok (.return_, 1) := by decide +kernel
set_option maxRecDepth 20000 in
theorem ggX2_aimAll_X1_size : GoodIn wsX2_aimAll wsX1_size := goodIn_r _ [6, 7, 59, 60] (by decide +kernel) (by decide +kernel)
set_option maxRecDepth 20000 in
theorem gX2_aimAll_X1_size : GoodIn wsX2_aimAll (wsV RX2 77 RX1 yX1_size wsX1_size) := goodIn_app (goodIn_of _ (by decide +kernel)) ggX2_aimAll_X1_size
set_option maxRecDepth 20000 in
theorem ggX2_aimAll_X2_isThereIn : GoodIn wsX2_aimAll wsX2_isThereIn := goodIn_r _ [12, 13, 14, 15, 16, 5, 17, 7, 18, 50, 51, 52, 53, 54, 55, 56, 57, 58, 59, 60] (by decide +kernel) (by decide +kernel)
set_option maxRecDepth 20000 in
theorem gX2_aimAll_X2_isThereIn : GoodIn wsX2_aimAll (wsV RX2 83 RX2 yX2_isThereIn wsX2_isThereIn) := goodIn_app (goodIn_of _ (by decide +kernel)) ggX2_aimAll_X2_isThereIn
set_option maxRecDepth 20000 in
theorem ggX2_aimAll_X2_aimIn : GoodIn wsX2_aimAll wsX2_aimIn := goodIn_r _ [22, 23, 24, 25, 26, 27, 28, 29, 30, 31, 32, 2, 3, 4, 5, 6, 7, 14, 15, 16, 17, 18, 33, 34, 35, 36, 37, 38, 39, 40, 41, 8, 9, 10, 11, 12, 13, 50, 51, 52, 53, 54, 55, 56, 57, 58, 61, 62, 63, 59, 60] (by decide +kernel) (by decide +kernel)
set_option maxRecDepth 20000 in
theorem gX2_aimAll_X2_aimIn : GoodIn wsX2_aimAll (wsV RX2 101 RX2 yX2_aimIn wsX2_aimIn) := goodIn_app (goodIn_of _ (by decide +kernel)) ggX2_aimAll_X2_aimIn
set_option maxRecDepth 20000 in
theorem ggX2_aimAll_X1_put : GoodIn wsX2_aimAll wsX1_put := goodIn_r _ [45, 18, 46, 47, 48, 5, 49, 7, 59, 60] (by decide +kernel) (by decide +kernel)
set_option maxRecDepth 20000 in
theorem gX2_aimAll_X1_put : GoodIn wsX2_aimAll (wsV RX2 50 RX1 yX1_put wsX1_put) := goodIn_app (goodIn_of _ (by decide +kernel)) ggX2_aimAll_X1_put
theorem dX2_aimAll_0 : decode cX2_aimAll 0 = .ok (.iconst 0, 1) := by decide +kernel
theorem dX2_aimAll_1 : decode cX2_aimAll 1 = .ok (.istore_n 2, 1) := by decide +kernel
theorem dX2_aimAll_2 : decode cX2_aimAll 2 = .ok (.iload_n 2, 1) := by decide +kernel
theorem dX2_aimAll_3 : decode cX2_aimAll 3 = .ok (.aload_n 0, 1) := by decide +kernel
theorem dX2_aimAll_4 : decode cX2_aimAll 4 = .ok (.getfield 24, 3) := by decide +kernel
theorem dX2_aimAll_7 : decode cX2_aimAll 7 = .ok (.invokevirtual 77, 3) := by decide +kernel
theorem dX2_aimAll_10 : decode cX2_aimAll 10 = .ok (.if_icmp .ge 36, 3) := by decide +kernel
theorem dX2_aimAll_13 : decode cX2_aimAll 13 = .ok (.aload_n 0, 1) := by decide +kernel
theorem dX2_aimAll_14 : decode cX2_aimAll 14 = .ok (.getfield 24, 3) := by decide +kernel
theorem dX2_aimAll_17 : decode cX2_aimAll 17 = .ok (.iload_n 2, 1) := by decide +kernel
theorem dX2_aimAll_18 : decode cX2_aimAll 18 = .ok (.aload_n 0, 1) := by decide +kernel
theorem dX2_aimAll_19 : decode cX2_aimAll 19 = .ok (.iload_n 2, 1) := by decide +kernel
