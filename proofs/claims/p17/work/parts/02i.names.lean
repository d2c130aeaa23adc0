set_option maxRecDepth 20000 in
theorem gqL_law_X3_count_0 : Cond.code yX3_count cX3_count 2 (some .int) ∈ wsL_law := List.mem_of_getElem? (i := 261) rfl
set_option maxRecDepth 20000 in
theorem gqL_law_X3_count_g : goodWord (Cond.code yX3_count cX3_count 2 (some .int)) = true := by decide +kernel
set_option maxRecDepth 20000 in
theorem gqL_law_X3_count_wsX3_count_r1 : GoodIn wsL_law wsX3_count_r1 := goodIn_r _ [190, 191, 18, 22, 84, 85, 86, 17, 87, 31, 88, 89, 90, 30, 91, 38, 262, 263, 264, 21, 265, 50, 266, 267] (by decide +kernel) (by decide +kernel)
set_option maxRecDepth 20000 in
theorem gqL_law_X3_count_wsX3_count_r2 : GoodIn wsL_law wsX3_count_r2 := goodIn_r _ [268, 269, 51, 205, 206, 207, 2, 208, 209, 210, 211, 212, 44, 142, 101, 102, 103, 37, 213, 170, 171, 172, 173, 270] (by decide +kernel) (by decide +kernel)
set_option maxRecDepth 20000 in
theorem gqL_law_X3_count_wsX3_count_r3 : GoodIn wsL_law wsX3_count_r3 := goodIn_r _ [271, 272, 273, 274, 275, 276, 277, 252, 253, 254, 255, 218, 148, 149, 150, 32, 33, 256, 155, 130, 131, 132, 278, 279] (by decide +kernel) (by decide +kernel)
set_option maxRecDepth 20000 in
theorem gqL_law_X3_count_wsX3_count_r4 : GoodIn wsL_law wsX3_count_r4 := goodIn_r _ [280, 281, 46, 282, 283, 284, 285, 286, 6, 7, 8, 100] (by decide +kernel) (by decide +kernel)
set_option maxRecDepth 20000 in
theorem gqL_law_X3_count_wsX30 : GoodIn wsL_law wsX30 := goodIn_r _ [341, 342, 343] (by decide +kernel) (by decide +kernel)
set_option maxRecDepth 20000 in
theorem gqL_law_X3_count_wsX00 : GoodIn wsL_law wsX00 := goodIn_r _ [344, 345, 346] (by decide +kernel) (by decide +kernel)
set_option maxRecDepth 20000 in
theorem gqL_law_X3_count_wsX10 : GoodIn wsL_law wsX10 := goodIn_r _ [356, 357] (by decide +kernel) (by decide +kernel)
set_option maxRecDepth 20000 in
theorem gqL_law_X3_count_wsX20 : GoodIn wsL_law wsX20 := goodIn_r _ [347, 348, 349, 350, 351, 352, 353, 354, 355] (by decide +kernel) (by decide +kernel)
theorem gqL_law_X3_count_h : GoodIn wsL_law (Cond.code yX3_count cX3_count 2 (some .int) :: wsX3_count_r1) := fun w h => (List.mem_cons.mp h).elim (fun e => e ▸ ⟨gqL_law_X3_count_0, good_of_word gqL_law_X3_count_g⟩) (gqL_law_X3_count_wsX3_count_r1 w)
theorem ggL_law_X3_count : GoodIn wsL_law wsX3_count := goodIn_ca (goodIn_ca (goodIn_ca (goodIn_ca (goodIn_ca (goodIn_ca gqL_law_X3_count_h (goodIn_app gqL_law_X3_count_wsX3_count_r2 (goodIn_app gqL_law_X3_count_wsX3_count_r3 gqL_law_X3_count_wsX3_count_r4))) gqL_law_X3_count_wsX30) gqL_law_X3_count_wsX00) gqL_law_X3_count_wsX10) gqL_law_X3_count_wsX20) (goodIn_sub (fun _ h => List.mem_append_left _ (List.mem_append_right _ h)) (by decide +kernel))
set_option maxRecDepth 20000 in
theorem gL_law_X3_count : GoodIn wsL_law (wsV RL 69 RX3 yX3_count wsX3_count) := goodIn_app (goodIn_of _ (by decide +kernel)) ggL_law_X3_count
set_option maxRecDepth 20000 in
theorem gqL_law_X3_told_0 : Cond.code yX3_told cX3_told 3 (some .int) ∈ wsL_law := List.mem_of_getElem? (i := 290) rfl
set_option maxRecDepth 20000 in
theorem gqL_law_X3_told_g : goodWord (Cond.code yX3_told cX3_told 3 (some .int)) = true := by decide +kernel
set_option maxRecDepth 20000 in
theorem gqL_law_X3_told_wsX3_told_r1 : GoodIn wsL_law wsX3_told_r1 := goodIn_r _ [190, 191, 18, 22, 186, 187, 188, 2, 189, 84, 85, 86, 17, 87, 31, 88, 89, 90, 30, 91, 38, 213, 170, 171] (by decide +kernel) (by decide +kernel)
set_option maxRecDepth 20000 in
theorem gqL_law_X3_told_wsX3_told_r2 : GoodIn wsL_law wsX3_told_r2 := goodIn_r _ [172, 173, 101, 102, 103, 37, 192, 148, 149, 150, 32, 33, 196, 209, 210, 211, 21, 212, 44, 142, 291, 292, 293, 294] (by decide +kernel) (by decide +kernel)
set_option maxRecDepth 20000 in
theorem gqL_law_X3_told_wsX3_told_r3 : GoodIn wsL_law wsX3_told_r3 := goodIn_r _ [45, 295, 296, 297, 298, 46, 274, 275, 276, 277, 252, 253, 254, 255, 218, 256, 155, 130, 131, 132] (by decide +kernel) (by decide +kernel)
set_option maxRecDepth 20000 in
theorem gqL_law_X3_told_wsX30 : GoodIn wsL_law wsX30 := goodIn_r _ [341, 342, 343] (by decide +kernel) (by decide +kernel)
set_option maxRecDepth 20000 in
theorem gqL_law_X3_told_wsX00 : GoodIn wsL_law wsX00 := goodIn_r _ [344, 345, 346] (by decide +kernel) (by decide +kernel)
set_option maxRecDepth 20000 in
theorem gqL_law_X3_told_wsX10 : GoodIn wsL_law wsX10 := goodIn_r _ [356, 357] (by decide +kernel) (by decide +kernel)
set_option maxRecDepth 20000 in
theorem gqL_law_X3_told_wsX20 : GoodIn wsL_law wsX20 := goodIn_r _ [347, 348, 349, 350, 351, 352, 353, 354, 355] (by decide +kernel) (by decide +kernel)
theorem gqL_law_X3_told_h : GoodIn wsL_law (Cond.code yX3_told cX3_told 3 (some .int) :: wsX3_told_r1) := fun w h => (List.mem_cons.mp h).elim (fun e => e ▸ ⟨gqL_law_X3_told_0, good_of_word gqL_law_X3_told_g⟩) (gqL_law_X3_told_wsX3_told_r1 w)
theorem ggL_law_X3_told : GoodIn wsL_law wsX3_told := goodIn_ca (goodIn_ca (goodIn_ca (goodIn_ca (goodIn_ca (goodIn_ca gqL_law_X3_told_h (goodIn_app gqL_law_X3_told_wsX3_told_r2 gqL_law_X3_told_wsX3_told_r3)) gqL_law_X3_told_wsX30) gqL_law_X3_told_wsX00) gqL_law_X3_told_wsX10) gqL_law_X3_told_wsX20) (goodIn_sub (fun _ h => List.mem_append_left _ (List.mem_append_right _ h)) (by decide +kernel))
set_option maxRecDepth 20000 in
theorem gL_law_X3_told : GoodIn wsL_law (wsV RL 73 RX3 yX3_told wsX3_told) := goodIn_app (goodIn_of _ (by decide +kernel)) ggL_law_X3_told
set_option maxRecDepth 20000 in
theorem gqL_law_X3_points_0 : Cond.code yX3_points cX3_points 3 (some .int) ∈ wsL_law := List.mem_of_getElem? (i := 302) rfl
set_option maxRecDepth 20000 in
theorem gqL_law_X3_points_g : goodWord (Cond.code yX3_points cX3_points 3 (some .int)) = true := by decide +kernel
set_option maxRecDepth 20000 in
theorem gqL_law_X3_points_wsX3_points_r1 : GoodIn wsL_law wsX3_points_r1 := goodIn_r _ [303, 304, 22, 186, 187, 188, 2, 189, 190, 191, 18, 84, 85, 86, 17, 87, 31, 88, 89, 90, 30, 91, 38, 305] (by decide +kernel) (by decide +kernel)
set_option maxRecDepth 20000 in
theorem gqL_law_X3_points_wsX3_points_r2 : GoodIn wsL_law wsX3_points_r2 := goodIn_r _ [139, 140, 21, 141, 45, 142, 101, 102, 103, 37, 306, 144, 145, 146, 49, 48, 52, 147, 148, 149, 150, 32, 33, 137] (by decide +kernel) (by decide +kernel)
set_option maxRecDepth 20000 in
theorem gqL_law_X3_points_wsX3_points_r3 : GoodIn wsL_law wsX3_points_r3 := goodIn_r _ [151, 152, 153, 154, 155, 130, 131, 132, 138] (by decide +kernel) (by decide +kernel)
set_option maxRecDepth 20000 in
theorem gqL_law_X3_points_wsX30 : GoodIn wsL_law wsX30 := goodIn_r _ [341, 342, 343] (by decide +kernel) (by decide +kernel)
set_option maxRecDepth 20000 in
theorem gqL_law_X3_points_wsX00 : GoodIn wsL_law wsX00 := goodIn_r _ [344, 345, 346] (by decide +kernel) (by decide +kernel)
set_option maxRecDepth 20000 in
theorem gqL_law_X3_points_wsX10 : GoodIn wsL_law wsX10 := goodIn_r _ [356, 357] (by decide +kernel) (by decide +kernel)
set_option maxRecDepth 20000 in
theorem gqL_law_X3_points_wsX20 : GoodIn wsL_law wsX20 := goodIn_r _ [347, 348, 349, 350, 351, 352, 353, 354, 355] (by decide +kernel) (by decide +kernel)
theorem gqL_law_X3_points_h : GoodIn wsL_law (Cond.code yX3_points cX3_points 3 (some .int) :: wsX3_points_r1) := fun w h => (List.mem_cons.mp h).elim (fun e => e ▸ ⟨gqL_law_X3_points_0, good_of_word gqL_law_X3_points_g⟩) (gqL_law_X3_points_wsX3_points_r1 w)
theorem ggL_law_X3_points : GoodIn wsL_law wsX3_points := goodIn_ca (goodIn_ca (goodIn_ca (goodIn_ca (goodIn_ca (goodIn_ca (goodIn_ca gqL_law_X3_points_h (goodIn_app gqL_law_X3_points_wsX3_points_r2 gqL_law_X3_points_wsX3_points_r3)) gqL_law_X3_points_wsX30) gqL_law_X3_points_wsX00) gqL_law_X3_points_wsX10) gqL_law_X3_points_wsX20) (goodIn_sub (fun _ h => List.mem_append_right _ h) (by decide +kernel))) (goodIn_sub (fun _ h => List.mem_append_left _ (List.mem_append_right _ h)) (by decide +kernel))
set_option maxRecDepth 20000 in
theorem gL_law_X3_points : GoodIn wsL_law (wsV RL 81 RX3 yX3_points wsX3_points) := goodIn_app (goodIn_of _ (by decide +kernel)) ggL_law_X3_points
set_option maxRecDepth 20000 in
theorem ggL_law_X3_mean : GoodIn wsL_law wsX3_mean := goodIn_r _ [310, 18, 22, 84, 85, 86, 17, 87, 31, 88, 89, 90, 30, 91, 38, 311, 312, 313, 21, 314, 45, 315, 316, 317, 318, 100, 101, 102, 103, 37, 341, 342, 343, 344, 345, 346, 356, 357, 347, 348, 349, 350, 351, 352, 353, 354, 355] (by decide +kernel) (by decide +kernel)
set_option maxRecDepth 20000 in
theorem gL_law_X3_mean : GoodIn wsL_law (wsV RL 84 RX3 yX3_mean wsX3_mean) := goodIn_app (goodIn_of _ (by decide +kernel)) ggL_law_X3_mean
set_option maxRecDepth 20000 in
theorem gqL_law_X3_move_0 : Cond.code yX3_move cX3_move 3 (some .int) ∈ wsL_law := List.mem_of_getElem? (i := 204) rfl
set_option maxRecDepth 20000 in
theorem gqL_law_X3_move_g : goodWord (Cond.code yX3_move cX3_move 3 (some .int)) = true := by decide +kernel
set_option maxRecDepth 20000 in
theorem gqL_law_X3_move_wsX3_move_r1 : GoodIn wsL_law wsX3_move_r1 := goodIn_r _ [18, 22, 205, 206, 207, 2, 208, 84, 85, 86, 17, 87, 31, 88, 89, 90, 30, 91, 38, 209, 210, 211, 21, 212] (by decide +kernel) (by decide +kernel)
set_option maxRecDepth 20000 in
theorem gqL_law_X3_move_wsX3_move_r2 : GoodIn wsL_law wsX3_move_r2 := goodIn_r _ [44, 142, 101, 102, 103, 37, 213, 170, 171, 172, 173, 214, 215, 216, 217, 218, 148, 149, 150, 32, 33, 155, 130, 131] (by decide +kernel) (by decide +kernel)
set_option maxRecDepth 20000 in
theorem gqL_law_X3_move_wsX3_move_r3 : GoodIn wsL_law wsX3_move_r3 := goodIn_r _ [132, 219, 220, 221, 222, 108, 109, 110, 111, 223, 105, 106, 107, 112, 113, 114, 115, 116, 117, 118, 119, 52, 45, 46] (by decide +kernel) (by decide +kernel)
set_option maxRecDepth 20000 in
theorem gqL_law_X3_move_wsX3_move_r4 : GoodIn wsL_law wsX3_move_r4 := goodIn_r _ [47, 48, 49, 50, 51, 120, 121, 122, 123, 124, 104, 125, 126, 127, 128, 129, 133, 134, 135, 136, 137, 138, 139, 140] (by decide +kernel) (by decide +kernel)
set_option maxRecDepth 20000 in
theorem gqL_law_X3_move_wsX3_move_r5 : GoodIn wsL_law wsX3_move_r5 := goodIn_r _ [141, 143, 144, 145, 146, 147, 151, 152, 153, 154, 156, 157, 158, 159, 160, 161, 162, 163, 164, 165, 166, 167, 168, 169] (by decide +kernel) (by decide +kernel)
set_option maxRecDepth 20000 in
theorem gqL_law_X3_move_wsX30 : GoodIn wsL_law wsX30 := goodIn_r _ [341, 342, 343] (by decide +kernel) (by decide +kernel)
set_option maxRecDepth 20000 in
theorem gqL_law_X3_move_wsX00 : GoodIn wsL_law wsX00 := goodIn_r _ [344, 345, 346] (by decide +kernel) (by decide +kernel)
set_option maxRecDepth 20000 in
theorem gqL_law_X3_move_wsX10 : GoodIn wsL_law wsX10 := goodIn_r _ [356, 357] (by decide +kernel) (by decide +kernel)
set_option maxRecDepth 20000 in
theorem gqL_law_X3_move_wsX20 : GoodIn wsL_law wsX20 := goodIn_r _ [347, 348, 349, 350, 351, 352, 353, 354, 355] (by decide +kernel) (by decide +kernel)
theorem gqL_law_X3_move_h : GoodIn wsL_law (Cond.code yX3_move cX3_move 3 (some .int) :: wsX3_move_r1) := fun w h => (List.mem_cons.mp h).elim (fun e => e ▸ ⟨gqL_law_X3_move_0, good_of_word gqL_law_X3_move_g⟩) (gqL_law_X3_move_wsX3_move_r1 w)
theorem ggL_law_X3_move : GoodIn wsL_law wsX3_move := (goodIn_ca (goodIn_ca (goodIn_ca (goodIn_ca (goodIn_ca gqL_law_X3_move_h (goodIn_app gqL_law_X3_move_wsX3_move_r2 (goodIn_app gqL_law_X3_move_wsX3_move_r3 (goodIn_app gqL_law_X3_move_wsX3_move_r4 gqL_law_X3_move_wsX3_move_r5)))) gqL_law_X3_move_wsX30) gqL_law_X3_move_wsX00) gqL_law_X3_move_wsX10) gqL_law_X3_move_wsX20)
set_option maxRecDepth 20000 in
theorem gL_law_X3_move : GoodIn wsL_law (wsV RL 40 RX3 yX3_move wsX3_move) := goodIn_app (goodIn_of _ (by decide +kernel)) ggL_law_X3_move
set_option maxRecDepth 20000 in
theorem ggL_law_X4_move : GoodIn wsL_law wsX4_move := goodIn_r _ [227, 63, 65, 228, 4, 229, 230, 231, 59, 232, 233, 234, 235, 236, 3, 237, 238, 239, 358, 359, 360, 361, 362, 363] (by decide +kernel) (by decide +kernel)
set_option maxRecDepth 20000 in
theorem gL_law_X4_move : GoodIn wsL_law (wsV RL 43 RX4 yX4_move wsX4_move) := goodIn_app (goodIn_of _ (by decide +kernel)) ggL_law_X4_move
