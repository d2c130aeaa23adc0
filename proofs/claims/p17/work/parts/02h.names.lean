set_option maxRecDepth 20000 in
theorem gqL_law_X3_init_0 : Cond.code yX3_init cX3_init 1 none ∈ wsL_law := List.mem_of_getElem? (i := 11) rfl
set_option maxRecDepth 20000 in
theorem gqL_law_X3_init_g : goodWord (Cond.code yX3_init cX3_init 1 none) = true := by decide +kernel
set_option maxRecDepth 20000 in
theorem gqL_law_X3_init_wsX3_init_r1 : GoodIn wsL_law wsX3_init_r1 := goodIn_r _ [12, 13, 14, 15, 16, 17, 18, 19, 20, 21, 22, 23, 24, 25, 26, 27, 28, 29, 30, 31, 32, 33, 34, 35] (by decide +kernel) (by decide +kernel)
set_option maxRecDepth 20000 in
theorem gqL_law_X3_init_wsX3_init_r2 : GoodIn wsL_law wsX3_init_r2 := goodIn_r _ [36, 4, 37, 38, 39, 40, 41, 42, 43, 44, 45, 46, 47, 48, 49, 50, 51, 52] (by decide +kernel) (by decide +kernel)
set_option maxRecDepth 20000 in
theorem gqL_law_X3_init_wsX00 : GoodIn wsL_law wsX00 := goodIn_r _ [344, 345, 346] (by decide +kernel) (by decide +kernel)
set_option maxRecDepth 20000 in
theorem gqL_law_X3_init_wsX30 : GoodIn wsL_law wsX30 := goodIn_r _ [341, 342, 343] (by decide +kernel) (by decide +kernel)
set_option maxRecDepth 20000 in
theorem gqL_law_X3_init_wsX20 : GoodIn wsL_law wsX20 := goodIn_r _ [347, 348, 349, 350, 351, 352, 353, 354, 355] (by decide +kernel) (by decide +kernel)
set_option maxRecDepth 20000 in
theorem gqL_law_X3_init_wsX10 : GoodIn wsL_law wsX10 := goodIn_r _ [356, 357] (by decide +kernel) (by decide +kernel)
theorem gqL_law_X3_init_h : GoodIn wsL_law (Cond.code yX3_init cX3_init 1 none :: wsX3_init_r1) := fun w h => (List.mem_cons.mp h).elim (fun e => e ▸ ⟨gqL_law_X3_init_0, good_of_word gqL_law_X3_init_g⟩) (gqL_law_X3_init_wsX3_init_r1 w)
theorem ggL_law_X3_init : GoodIn wsL_law wsX3_init := (goodIn_ca (goodIn_ca (goodIn_ca (goodIn_ca (goodIn_ca gqL_law_X3_init_h gqL_law_X3_init_wsX3_init_r2) gqL_law_X3_init_wsX00) gqL_law_X3_init_wsX30) gqL_law_X3_init_wsX20) gqL_law_X3_init_wsX10)
set_option maxRecDepth 20000 in
theorem gL_law_X3_init : GoodIn wsL_law (wsX3_init) := ggL_law_X3_init
set_option maxRecDepth 20000 in
theorem gqL_law_L_build_0 : Cond.code yL_build cL_build 5 (some (.object "HutRingsLaw$Sim")) ∈ wsL_law := List.mem_of_getElem? (i := 56) rfl
set_option maxRecDepth 20000 in
theorem gqL_law_L_build_g : goodWord (Cond.code yL_build cL_build 5 (some (.object "HutRingsLaw$Sim"))) = true := by decide +kernel
set_option maxRecDepth 20000 in
theorem gqL_law_L_build_wsL_build_r1 : GoodIn wsL_law wsL_build_r1 := goodIn_r _ [57, 58, 59, 60, 61, 62, 13, 14, 4, 63, 64, 65, 66, 67, 55, 68, 69, 70, 71, 72, 73, 74, 75, 76] (by decide +kernel) (by decide +kernel)
set_option maxRecDepth 20000 in
theorem gqL_law_L_build_wsL_build_r2 : GoodIn wsL_law wsL_build_r2 := goodIn_r _ [77, 78, 79, 80, 2, 81, 82, 83, 18, 22, 84, 85, 86, 17, 87, 31, 88, 89, 90, 30, 91, 38, 92, 93] (by decide +kernel) (by decide +kernel)
set_option maxRecDepth 20000 in
theorem gqL_law_L_build_wsL_build_r3 : GoodIn wsL_law wsL_build_r3 := goodIn_r _ [94, 95, 96, 97, 98, 99, 37, 100, 101, 102, 103, 104, 105, 106, 107, 108, 109, 110, 111, 112, 113, 114, 21, 115] (by decide +kernel) (by decide +kernel)
set_option maxRecDepth 20000 in
theorem gqL_law_L_build_wsL_build_r4 : GoodIn wsL_law wsL_build_r4 := goodIn_r _ [116, 117, 118, 119, 52, 44, 45, 46, 47, 48, 49, 50, 51, 120, 121, 122, 123, 124, 125, 126, 127, 128, 129, 130] (by decide +kernel) (by decide +kernel)
set_option maxRecDepth 20000 in
theorem gqL_law_L_build_wsL_build_r5 : GoodIn wsL_law wsL_build_r5 := goodIn_r _ [131, 132, 133, 134, 135, 136, 137, 138, 139, 140, 141, 142, 143, 144, 145, 146, 147, 148, 149, 150, 32, 33, 151, 152] (by decide +kernel) (by decide +kernel)
set_option maxRecDepth 20000 in
theorem gqL_law_L_build_wsL_build_r6 : GoodIn wsL_law wsL_build_r6 := goodIn_r _ [153, 154, 155, 156, 157, 158, 159, 160, 161, 162, 163, 164, 165, 166, 167, 168, 169, 170, 171, 172, 173, 174, 175, 176] (by decide +kernel) (by decide +kernel)
set_option maxRecDepth 20000 in
theorem gqL_law_L_build_wsL_build_r7 : GoodIn wsL_law wsL_build_r7 := goodIn_r _ [177, 178, 179, 180, 181, 182, 183, 184, 185, 186, 187, 188, 189, 190, 191, 192, 193, 194, 195, 196, 197, 198, 199, 200] (by decide +kernel) (by decide +kernel)
set_option maxRecDepth 20000 in
theorem gqL_law_L_build_wsL_build_r8 : GoodIn wsL_law wsL_build_r8 := goodIn_r _ [201, 202, 203, 204, 205, 206, 207, 208, 209, 210, 211, 212, 213, 214, 215, 216, 217, 218, 219, 220, 221, 222, 223, 224] (by decide +kernel) (by decide +kernel)
set_option maxRecDepth 20000 in
theorem gqL_law_L_build_wsL_build_r9 : GoodIn wsL_law wsL_build_r9 := goodIn_r _ [225, 226, 227, 228, 229, 230, 231, 232, 233, 234, 235, 236, 3, 237, 238, 239, 240, 241, 242, 243, 244, 245, 246, 247] (by decide +kernel) (by decide +kernel)
set_option maxRecDepth 20000 in
theorem gqL_law_L_build_wsL_build_r10 : GoodIn wsL_law wsL_build_r10 := goodIn_r _ [248, 249, 250, 251, 252, 253, 254, 255, 256, 257] (by decide +kernel) (by decide +kernel)
set_option maxRecDepth 20000 in
theorem gqL_law_L_build_wsX40 : GoodIn wsL_law wsX40 := goodIn_r _ [358, 359, 360, 361, 362, 363] (by decide +kernel) (by decide +kernel)
set_option maxRecDepth 20000 in
theorem gqL_law_L_build_wsX30 : GoodIn wsL_law wsX30 := goodIn_r _ [341, 342, 343] (by decide +kernel) (by decide +kernel)
set_option maxRecDepth 20000 in
theorem gqL_law_L_build_wsX00 : GoodIn wsL_law wsX00 := goodIn_r _ [344, 345, 346] (by decide +kernel) (by decide +kernel)
set_option maxRecDepth 20000 in
theorem gqL_law_L_build_wsX10 : GoodIn wsL_law wsX10 := goodIn_r _ [356, 357] (by decide +kernel) (by decide +kernel)
set_option maxRecDepth 20000 in
theorem gqL_law_L_build_wsX20 : GoodIn wsL_law wsX20 := goodIn_r _ [347, 348, 349, 350, 351, 352, 353, 354, 355] (by decide +kernel) (by decide +kernel)
theorem gqL_law_L_build_h : GoodIn wsL_law (Cond.code yL_build cL_build 5 (some (.object "HutRingsLaw$Sim")) :: wsL_build_r1) := fun w h => (List.mem_cons.mp h).elim (fun e => e ▸ ⟨gqL_law_L_build_0, good_of_word gqL_law_L_build_g⟩) (gqL_law_L_build_wsL_build_r1 w)
theorem ggL_law_L_build : GoodIn wsL_law wsL_build := goodIn_ca (goodIn_ca (goodIn_ca (goodIn_ca (goodIn_ca (goodIn_ca (goodIn_ca (goodIn_ca gqL_law_L_build_h (goodIn_app gqL_law_L_build_wsL_build_r2 (goodIn_app gqL_law_L_build_wsL_build_r3 (goodIn_app gqL_law_L_build_wsL_build_r4 (goodIn_app gqL_law_L_build_wsL_build_r5 (goodIn_app gqL_law_L_build_wsL_build_r6 (goodIn_app gqL_law_L_build_wsL_build_r7 (goodIn_app gqL_law_L_build_wsL_build_r8 (goodIn_app gqL_law_L_build_wsL_build_r9 gqL_law_L_build_wsL_build_r10))))))))) gqL_law_L_build_wsX40) gqL_law_L_build_wsX30) gqL_law_L_build_wsX00) gqL_law_L_build_wsX10) gqL_law_L_build_wsX20) (goodIn_sub (fun _ h => List.mem_append_left _ (List.mem_append_left _ (List.mem_append_right _ h))) (by decide +kernel))) (goodIn_sub (fun _ h => List.mem_append_left _ (List.mem_append_right _ h)) (by decide +kernel))
set_option maxRecDepth 20000 in
theorem gL_law_L_build : GoodIn wsL_law (va_wsS RL 65 yL_build wsL_build) := goodIn_app (goodIn_of _ (by decide +kernel)) ggL_law_L_build
set_option maxRecDepth 20000 in
theorem ggL_law_L_cell : GoodIn wsL_law wsL_cell := goodIn_r _ [68, 69] (by decide +kernel) (by decide +kernel)
set_option maxRecDepth 20000 in
theorem gL_law_L_cell : GoodIn wsL_law (va_wsS RL 57 yL_cell wsL_cell) := goodIn_app (goodIn_of _ (by decide +kernel)) ggL_law_L_cell
set_option maxRecDepth 20000 in
theorem gqL_law_L_act_0 : Cond.code yL_act cL_act 10 (some .boolean) ∈ wsL_law := List.mem_of_getElem? (i := 176) rfl
set_option maxRecDepth 20000 in
theorem gqL_law_L_act_g : goodWord (Cond.code yL_act cL_act 10 (some .boolean)) = true := by decide +kernel
set_option maxRecDepth 20000 in
theorem gqL_law_L_act_wsL_act_r1 : GoodIn wsL_law wsL_act_r1 := goodIn_r _ [177, 178, 70, 71, 55, 72, 73, 74, 75, 76, 59, 77, 63, 4, 64, 65, 78, 79, 80, 2, 81, 82, 83, 18] (by decide +kernel) (by decide +kernel)
set_option maxRecDepth 20000 in
theorem gqL_law_L_act_wsL_act_r2 : GoodIn wsL_law wsL_act_r2 := goodIn_r _ [22, 84, 85, 86, 17, 87, 31, 88, 89, 90, 30, 91, 38, 92, 93, 94, 95, 96, 97, 98, 99, 37, 100, 101] (by decide +kernel) (by decide +kernel)
set_option maxRecDepth 20000 in
theorem gqL_law_L_act_wsL_act_r3 : GoodIn wsL_law wsL_act_r3 := goodIn_r _ [102, 103, 104, 105, 106, 107, 108, 109, 110, 111, 112, 113, 114, 21, 115, 116, 117, 118, 119, 52, 44, 45, 46, 47] (by decide +kernel) (by decide +kernel)
set_option maxRecDepth 20000 in
theorem gqL_law_L_act_wsL_act_r4 : GoodIn wsL_law wsL_act_r4 := goodIn_r _ [48, 49, 50, 51, 120, 121, 122, 123, 124, 125, 126, 127, 128, 129, 130, 131, 132, 133, 134, 135, 136, 137, 138, 139] (by decide +kernel) (by decide +kernel)
set_option maxRecDepth 20000 in
theorem gqL_law_L_act_wsL_act_r5 : GoodIn wsL_law wsL_act_r5 := goodIn_r _ [140, 141, 142, 143, 144, 145, 146, 147, 148, 149, 150, 32, 33, 151, 152, 153, 154, 155, 156, 157, 158, 159, 160, 161] (by decide +kernel) (by decide +kernel)
set_option maxRecDepth 20000 in
theorem gqL_law_L_act_wsL_act_r6 : GoodIn wsL_law wsL_act_r6 := goodIn_r _ [162, 163, 164, 165, 166, 167, 168, 169, 170, 171, 172, 173, 179, 180, 181, 182, 183, 184, 185, 186, 187, 188, 189, 190] (by decide +kernel) (by decide +kernel)
set_option maxRecDepth 20000 in
theorem gqL_law_L_act_wsL_act_r7 : GoodIn wsL_law wsL_act_r7 := goodIn_r _ [191, 192, 193, 194, 195, 196, 197, 198, 199, 200, 201, 202, 203, 204, 205, 206, 207, 208, 209, 210, 211, 212, 213, 214] (by decide +kernel) (by decide +kernel)
set_option maxRecDepth 20000 in
theorem gqL_law_L_act_wsL_act_r8 : GoodIn wsL_law wsL_act_r8 := goodIn_r _ [215, 216, 217, 218, 219, 220, 221, 222, 223, 224, 225, 226, 227, 228, 229, 230, 231, 232, 233, 234, 235, 236, 3, 237] (by decide +kernel) (by decide +kernel)
set_option maxRecDepth 20000 in
theorem gqL_law_L_act_wsL_act_r9 : GoodIn wsL_law wsL_act_r9 := goodIn_r _ [238, 239, 240, 241, 242, 243, 244, 245, 246, 247, 248, 249, 250, 251, 252, 253, 254, 255, 256, 257] (by decide +kernel) (by decide +kernel)
set_option maxRecDepth 20000 in
theorem gqL_law_L_act_wsX40 : GoodIn wsL_law wsX40 := goodIn_r _ [358, 359, 360, 361, 362, 363] (by decide +kernel) (by decide +kernel)
set_option maxRecDepth 20000 in
theorem gqL_law_L_act_wsX30 : GoodIn wsL_law wsX30 := goodIn_r _ [341, 342, 343] (by decide +kernel) (by decide +kernel)
set_option maxRecDepth 20000 in
theorem gqL_law_L_act_wsX00 : GoodIn wsL_law wsX00 := goodIn_r _ [344, 345, 346] (by decide +kernel) (by decide +kernel)
set_option maxRecDepth 20000 in
theorem gqL_law_L_act_wsX10 : GoodIn wsL_law wsX10 := goodIn_r _ [356, 357] (by decide +kernel) (by decide +kernel)
set_option maxRecDepth 20000 in
theorem gqL_law_L_act_wsX20 : GoodIn wsL_law wsX20 := goodIn_r _ [347, 348, 349, 350, 351, 352, 353, 354, 355] (by decide +kernel) (by decide +kernel)
theorem gqL_law_L_act_h : GoodIn wsL_law (Cond.code yL_act cL_act 10 (some .boolean) :: wsL_act_r1) := fun w h => (List.mem_cons.mp h).elim (fun e => e ▸ ⟨gqL_law_L_act_0, good_of_word gqL_law_L_act_g⟩) (gqL_law_L_act_wsL_act_r1 w)
theorem ggL_law_L_act : GoodIn wsL_law wsL_act := goodIn_ca (goodIn_ca (goodIn_ca (goodIn_ca (goodIn_ca (goodIn_ca (goodIn_ca (goodIn_ca gqL_law_L_act_h (goodIn_app gqL_law_L_act_wsL_act_r2 (goodIn_app gqL_law_L_act_wsL_act_r3 (goodIn_app gqL_law_L_act_wsL_act_r4 (goodIn_app gqL_law_L_act_wsL_act_r5 (goodIn_app gqL_law_L_act_wsL_act_r6 (goodIn_app gqL_law_L_act_wsL_act_r7 (goodIn_app gqL_law_L_act_wsL_act_r8 gqL_law_L_act_wsL_act_r9)))))))) gqL_law_L_act_wsX40) gqL_law_L_act_wsX30) gqL_law_L_act_wsX00) gqL_law_L_act_wsX10) gqL_law_L_act_wsX20) (goodIn_sub (fun _ h => List.mem_append_left _ (List.mem_append_left _ (List.mem_append_right _ h))) (by decide +kernel))) (goodIn_sub (fun _ h => List.mem_append_left _ (List.mem_append_right _ h)) (by decide +kernel))
set_option maxRecDepth 20000 in
theorem gL_law_L_act : GoodIn wsL_law (va_wsS RL 60 yL_act wsL_act) := goodIn_app (goodIn_of _ (by decide +kernel)) ggL_law_L_act
