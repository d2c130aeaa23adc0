set_option maxRecDepth 20000 in
theorem ggL_build_X4_init : GoodIn wsL_build wsX4_init := goodIn_r _ [5, 6, 7, 8, 9, 10, 11, 12, 227, 228, 229, 230, 231, 232] (by decide +kernel) (by decide +kernel)
set_option maxRecDepth 20000 in
theorem gL_build_X4_init_n56 : GoodIn wsL_build (wsX4_init) := ggL_build_X4_init
set_option maxRecDepth 20000 in
theorem ggL_build_L_cell : GoodIn wsL_build wsL_cell := goodIn_r _ [16, 17] (by decide +kernel) (by decide +kernel)
set_option maxRecDepth 20000 in
theorem gL_build_L_cell : GoodIn wsL_build (va_wsS RL 57 yL_cell wsL_cell) := goodIn_app (goodIn_of _ (by decide +kernel)) ggL_build_L_cell
set_option maxRecDepth 20000 in
theorem ggL_build_L_below : GoodIn wsL_build wsL_below := goodIn_r _ [20, 21] (by decide +kernel) (by decide +kernel)
set_option maxRecDepth 20000 in
theorem gL_build_L_below : GoodIn wsL_build (va_wsS RL 15 yL_below wsL_below) := goodIn_app (goodIn_of _ (by decide +kernel)) ggL_build_L_below
set_option maxRecDepth 20000 in
theorem ggL_build_X4_come : GoodIn wsL_build wsX4_come := goodIn_r _ [25, 10, 9, 11, 12, 227, 228, 229, 230, 231, 232] (by decide +kernel) (by decide +kernel)
set_option maxRecDepth 20000 in
theorem gL_build_X4_come : GoodIn wsL_build (wsV RL 25 RX4 yX4_come wsX4_come) := goodIn_app (goodIn_of _ (by decide +kernel)) ggL_build_X4_come
set_option maxRecDepth 20000 in
theorem gqL_build_X3_come_0 : Cond.code yX3_come cX3_come 2 (some .int) ∈ wsL_build := List.mem_of_getElem? (i := 30) rfl
set_option maxRecDepth 20000 in
theorem gqL_build_X3_come_g : goodWord (Cond.code yX3_come cX3_come 2 (some .int)) = true := by decide +kernel
set_option maxRecDepth 20000 in
theorem gqL_build_X3_come_wsX3_come_r1 : GoodIn wsL_build wsX3_come_r1 := goodIn_r _ [31, 32, 33, 34, 35, 36, 37, 38, 39, 40, 41, 42, 43, 44, 45, 46, 47, 48, 49, 50, 51, 52, 53, 54] (by decide +kernel) (by decide +kernel)
set_option maxRecDepth 20000 in
theorem gqL_build_X3_come_wsX3_come_r2 : GoodIn wsL_build wsX3_come_r2 := goodIn_r _ [55, 56, 57, 58, 59, 60, 61, 62, 63, 64, 65, 66, 67, 68, 69, 70, 71, 72, 73, 74, 75, 76, 77, 78] (by decide +kernel) (by decide +kernel)
set_option maxRecDepth 20000 in
theorem gqL_build_X3_come_wsX3_come_r3 : GoodIn wsL_build wsX3_come_r3 := goodIn_r _ [79, 80, 81, 82, 83, 84, 85, 86, 87, 88, 89, 90, 91, 92, 93, 94, 95, 96, 97, 98, 99, 100, 101, 102] (by decide +kernel) (by decide +kernel)
set_option maxRecDepth 20000 in
theorem gqL_build_X3_come_wsX3_come_r4 : GoodIn wsL_build wsX3_come_r4 := goodIn_r _ [103, 104, 105, 106, 107, 108, 109, 110, 111, 112, 113, 114, 115, 116, 117, 118, 119, 120, 121, 122, 123, 124, 125, 126] (by decide +kernel) (by decide +kernel)
set_option maxRecDepth 20000 in
theorem gqL_build_X3_come_wsX3_come_r5 : GoodIn wsL_build wsX3_come_r5 := goodIn_r _ [127, 128, 129, 130, 131, 132, 133, 134, 135, 136, 137, 138, 139, 140, 141] (by decide +kernel) (by decide +kernel)
set_option maxRecDepth 20000 in
theorem gqL_build_X3_come_wsX30 : GoodIn wsL_build wsX30 := goodIn_r _ [233, 234, 235] (by decide +kernel) (by decide +kernel)
set_option maxRecDepth 20000 in
theorem gqL_build_X3_come_wsX00 : GoodIn wsL_build wsX00 := goodIn_r _ [236, 237, 238] (by decide +kernel) (by decide +kernel)
set_option maxRecDepth 20000 in
theorem gqL_build_X3_come_wsX10 : GoodIn wsL_build wsX10 := goodIn_r _ [239, 240] (by decide +kernel) (by decide +kernel)
set_option maxRecDepth 20000 in
theorem gqL_build_X3_come_wsX20 : GoodIn wsL_build wsX20 := goodIn_r _ [241, 242, 243, 244, 245, 246, 247, 248, 249] (by decide +kernel) (by decide +kernel)
theorem gqL_build_X3_come_h : GoodIn wsL_build (Cond.code yX3_come cX3_come 2 (some .int) :: wsX3_come_r1) := fun w h => (List.mem_cons.mp h).elim (fun e => e ▸ ⟨gqL_build_X3_come_0, good_of_word gqL_build_X3_come_g⟩) (gqL_build_X3_come_wsX3_come_r1 w)
theorem ggL_build_X3_come : GoodIn wsL_build wsX3_come := goodIn_ca (goodIn_ca (goodIn_ca (goodIn_ca (goodIn_ca (goodIn_ca gqL_build_X3_come_h (goodIn_app gqL_build_X3_come_wsX3_come_r2 (goodIn_app gqL_build_X3_come_wsX3_come_r3 (goodIn_app gqL_build_X3_come_wsX3_come_r4 gqL_build_X3_come_wsX3_come_r5)))) gqL_build_X3_come_wsX30) gqL_build_X3_come_wsX00) gqL_build_X3_come_wsX10) gqL_build_X3_come_wsX20) (goodIn_sub (fun _ h => List.mem_cons_of_mem _ (List.mem_append_left _ (List.mem_append_right _ h))) (by decide +kernel))
set_option maxRecDepth 20000 in
theorem gL_build_X3_come : GoodIn wsL_build (wsV RL 28 RX3 yX3_come wsX3_come) := goodIn_app (goodIn_of _ (by decide +kernel)) ggL_build_X3_come
set_option maxRecDepth 20000 in
theorem gqL_build_L_act_0 : Cond.code yL_act cL_act 10 (some .boolean) ∈ wsL_build := List.mem_of_getElem? (i := 144) rfl
set_option maxRecDepth 20000 in
theorem gqL_build_L_act_g : goodWord (Cond.code yL_act cL_act 10 (some .boolean)) = true := by decide +kernel
set_option maxRecDepth 20000 in
theorem gqL_build_L_act_wsL_act_r1 : GoodIn wsL_build wsL_act_r1 := goodIn_r _ [145, 146, 18, 19, 15, 20, 21, 22, 23, 24, 3, 25, 10, 9, 11, 12, 26, 27, 28, 29, 30, 31, 32, 33] (by decide +kernel) (by decide +kernel)
set_option maxRecDepth 20000 in
theorem gqL_build_L_act_wsL_act_r2 : GoodIn wsL_build wsL_act_r2 := goodIn_r _ [34, 35, 36, 37, 38, 39, 40, 41, 42, 43, 44, 45, 46, 47, 48, 49, 50, 51, 52, 53, 54, 55, 56, 57] (by decide +kernel) (by decide +kernel)
set_option maxRecDepth 20000 in
theorem gqL_build_L_act_wsL_act_r3 : GoodIn wsL_build wsL_act_r3 := goodIn_r _ [58, 59, 60, 61, 62, 63, 64, 65, 66, 67, 68, 69, 70, 71, 72, 73, 74, 75, 76, 77, 78, 79, 80, 81] (by decide +kernel) (by decide +kernel)
set_option maxRecDepth 20000 in
theorem gqL_build_L_act_wsL_act_r4 : GoodIn wsL_build wsL_act_r4 := goodIn_r _ [82, 83, 84, 85, 86, 87, 88, 89, 90, 91, 92, 93, 94, 95, 96, 97, 98, 99, 100, 101, 102, 103, 104, 105] (by decide +kernel) (by decide +kernel)
set_option maxRecDepth 20000 in
theorem gqL_build_L_act_wsL_act_r5 : GoodIn wsL_build wsL_act_r5 := goodIn_r _ [106, 107, 108, 109, 110, 111, 112, 113, 114, 115, 116, 117, 118, 119, 120, 121, 122, 123, 124, 125, 126, 127, 128, 129] (by decide +kernel) (by decide +kernel)
set_option maxRecDepth 20000 in
theorem gqL_build_L_act_wsL_act_r6 : GoodIn wsL_build wsL_act_r6 := goodIn_r _ [130, 131, 132, 133, 134, 135, 136, 137, 138, 139, 140, 141, 147, 148, 149, 150, 151, 152, 153, 154, 155, 156, 157, 158] (by decide +kernel) (by decide +kernel)
set_option maxRecDepth 20000 in
theorem gqL_build_L_act_wsL_act_r7 : GoodIn wsL_build wsL_act_r7 := goodIn_r _ [159, 160, 161, 162, 163, 164, 165, 166, 167, 168, 169, 170, 171, 172, 173, 174, 175, 176, 177, 178, 179, 180, 181, 182] (by decide +kernel) (by decide +kernel)
set_option maxRecDepth 20000 in
theorem gqL_build_L_act_wsL_act_r8 : GoodIn wsL_build wsL_act_r8 := goodIn_r _ [183, 184, 185, 186, 187, 188, 189, 190, 191, 192, 193, 194, 195, 196, 197, 198, 199, 200, 201, 202, 203, 204, 205, 206] (by decide +kernel) (by decide +kernel)
set_option maxRecDepth 20000 in
theorem gqL_build_L_act_wsL_act_r9 : GoodIn wsL_build wsL_act_r9 := goodIn_r _ [207, 208, 209, 210, 211, 212, 213, 214, 215, 216, 217, 218, 219, 220, 221, 222, 223, 224, 225, 226] (by decide +kernel) (by decide +kernel)
set_option maxRecDepth 20000 in
theorem gqL_build_L_act_wsX40 : GoodIn wsL_build wsX40 := goodIn_r _ [227, 228, 229, 230, 231, 232] (by decide +kernel) (by decide +kernel)
set_option maxRecDepth 20000 in
theorem gqL_build_L_act_wsX30 : GoodIn wsL_build wsX30 := goodIn_r _ [233, 234, 235] (by decide +kernel) (by decide +kernel)
set_option maxRecDepth 20000 in
theorem gqL_build_L_act_wsX00 : GoodIn wsL_build wsX00 := goodIn_r _ [236, 237, 238] (by decide +kernel) (by decide +kernel)
set_option maxRecDepth 20000 in
theorem gqL_build_L_act_wsX10 : GoodIn wsL_build wsX10 := goodIn_r _ [239, 240] (by decide +kernel) (by decide +kernel)
set_option maxRecDepth 20000 in
theorem gqL_build_L_act_wsX20 : GoodIn wsL_build wsX20 := goodIn_r _ [241, 242, 243, 244, 245, 246, 247, 248, 249] (by decide +kernel) (by decide +kernel)
theorem gqL_build_L_act_h : GoodIn wsL_build (Cond.code yL_act cL_act 10 (some .boolean) :: wsL_act_r1) := fun w h => (List.mem_cons.mp h).elim (fun e => e ▸ ⟨gqL_build_L_act_0, good_of_word gqL_build_L_act_g⟩) (gqL_build_L_act_wsL_act_r1 w)
theorem ggL_build_L_act : GoodIn wsL_build wsL_act := goodIn_ca (goodIn_ca (goodIn_ca (goodIn_ca (goodIn_ca (goodIn_ca (goodIn_ca (goodIn_ca gqL_build_L_act_h (goodIn_app gqL_build_L_act_wsL_act_r2 (goodIn_app gqL_build_L_act_wsL_act_r3 (goodIn_app gqL_build_L_act_wsL_act_r4 (goodIn_app gqL_build_L_act_wsL_act_r5 (goodIn_app gqL_build_L_act_wsL_act_r6 (goodIn_app gqL_build_L_act_wsL_act_r7 (goodIn_app gqL_build_L_act_wsL_act_r8 gqL_build_L_act_wsL_act_r9)))))))) gqL_build_L_act_wsX40) gqL_build_L_act_wsX30) gqL_build_L_act_wsX00) gqL_build_L_act_wsX10) gqL_build_L_act_wsX20) (goodIn_sub (fun _ h => List.mem_cons_of_mem _ (List.mem_append_left _ (List.mem_append_right _ h))) (by decide +kernel))) (goodIn_sub (fun _ h => List.mem_cons_of_mem _ (List.mem_append_right _ h)) (by decide +kernel))
set_option maxRecDepth 20000 in
theorem gL_build_L_act : GoodIn wsL_build (va_wsS RL 60 yL_act wsL_act) := goodIn_app (goodIn_of _ (by decide +kernel)) ggL_build_L_act
theorem dL_build_0 : decode cL_build 0 = .ok (.new 10, 3) := by decide +kernel
theorem dL_build_3 : decode cL_build 3 = .ok (.dup, 1) := by decide +kernel
theorem dL_build_4 : decode cL_build 4 = .ok (.invokespecial 56, 3) := by decide +kernel
theorem dL_build_7 : decode cL_build 7 = .ok (.astore_n 2, 1) := by decide +kernel
theorem dL_build_8 : decode cL_build 8 = .ok (.iconst 1, 1) := by decide +kernel
theorem dL_build_9 : decode cL_build 9 = .ok (.aload_n 1, 1) := by decide +kernel
theorem dL_build_10 : decode cL_build 10 = .ok (.iconst 0, 1) := by decide +kernel
theorem dL_build_11 : decode cL_build 11 = .ok (.invokestatic 57, 3) := by decide +kernel
theorem dL_build_14 : decode cL_build 14 = .ok (.bipush 10, 2) := by decide +kernel
theorem dL_build_16 : decode cL_build 16 = .ok (.invokestatic 15, 3) := by decide +kernel
theorem dL_build_19 : decode cL_build 19 = .ok (.iadd, 1) := by decide +kernel
theorem dL_build_20 : decode cL_build 20 = .ok (.istore_n 3, 1) := by decide +kernel
theorem dL_build_21 : decode cL_build 21 = .ok (.iconst 0, 1) := by decide +kernel
theorem dL_build_22 : decode cL_build 22 = .ok (.istore 4, 2) := by decide +kernel
theorem dL_build_24 : decode cL_build 24 = .ok (.iload 4, 2) := by decide +kernel
theorem dL_build_26 : decode cL_build 26 = .ok (.iload_n 3, 1) := by decide +kernel
theorem dL_build_27 : decode cL_build 27 = .ok (.if_icmp .ge 24, 3) := by decide +kernel
theorem dL_build_30 : decode cL_build 30 = .ok (.aload_n 2, 1) := by decide +kernel
theorem dL_build_31 : decode cL_build 31 = .ok (.invokevirtual 25, 3) := by decide +kernel
theorem dL_build_34 : decode cL_build 34 = .ok (.aload_n 0, 1) := by decide +kernel
theorem dL_build_35 : decode cL_build 35 = .ok (.invokevirtual 28, 3) := by decide +kernel
theorem dL_build_38 : decode cL_build 38 = .ok (.iload 4, 2) := by decide +kernel
theorem dL_build_40 : decode cL_build 40 = .ok (.if_icmp .eq 5, 3) := by decide +kernel
theorem dL_build_43 : decode cL_build 43 = .ok (.aconst_null, 1) := by decide +kernel
theorem dL_build_44 : decode cL_build 44 = .ok (.areturn, 1) := by decide +kernel
theorem dL_build_45 : decode cL_build 45 = .ok (.iinc 4 1, 3) := by decide +kernel
theorem dL_build_48 : decode cL_build 48 = .ok (.goto (-24), 3) := by decide +kernel
theorem dL_build_51 : decode cL_build 51 = .ok (.iconst 0, 1) := by decide +kernel
theorem dL_build_52 : decode cL_build 52 = .ok (.istore 4, 2) := by decide +kernel
theorem dL_build_54 : decode cL_build 54 = .ok (.iload 4, 2) := by decide +kernel
theorem dL_build_56 : decode cL_build 56 = .ok (.bipush 40, 2) := by decide +kernel
theorem dL_build_58 : decode cL_build 58 = .ok (.if_icmp .ge 43, 3) := by decide +kernel
theorem dL_build_61 : decode cL_build 61 = .ok (.aload_n 0, 1) := by decide +kernel
theorem dL_build_62 : decode cL_build 62 = .ok (.aload_n 2, 1) := by decide +kernel
theorem dL_build_63 : decode cL_build 63 = .ok (.aload_n 1, 1) := by decide +kernel
theorem dL_build_64 : decode cL_build 64 = .ok (.iload 4, 2) := by decide +kernel
theorem dL_build_66 : decode cL_build 66 = .ok (.bipush 16, 2) := by decide +kernel
theorem dL_build_68 : decode cL_build 68 = .ok (.irem, 1) := by decide +kernel
theorem dL_build_69 : decode cL_build 69 = .ok (.invokestatic 57, 3) := by decide +kernel
theorem dL_build_72 : decode cL_build 72 = .ok (.iload 4, 2) := by decide +kernel
theorem dL_build_74 : decode cL_build 74 = .ok (.bipush 16, 2) := by decide +kernel
theorem dL_build_76 : decode cL_build 76 = .ok (.idiv, 1) := by decide +kernel
theorem dL_build_77 : decode cL_build 77 = .ok (.iconst 4, 1) := by decide +kernel
theorem dL_build_78 : decode cL_build 78 = .ok (.imul, 1) := by decide +kernel
theorem dL_build_79 : decode cL_build 79 = .ok (.ishr, 1) := by decide +kernel
theorem dL_build_80 : decode cL_build 80 = .ok (.sipush 223, 3) := by decide +kernel
theorem dL_build_83 : decode cL_build 83 = .ok (.iload 4, 2) := by decide +kernel
theorem dL_build_85 : decode cL_build 85 = .ok (.imul, 1) := by decide +kernel
theorem dL_build_86 : decode cL_build 86 = .ok (.iadd, 1) := by decide +kernel
theorem dL_build_87 : decode cL_build 87 = .ok (.invokestatic 60, 3) := by decide +kernel
theorem dL_build_90 : decode cL_build 90 = .ok (.ifCond .ne 5, 3) := by decide +kernel
theorem dL_build_93 : decode cL_build 93 = .ok (.aconst_null, 1) := by decide +kernel
theorem dL_build_94 : decode cL_build 94 = .ok (.areturn, 1) := by decide +kernel
theorem dL_build_95 : decode cL_build 95 = .ok (.iinc 4 1, 3) := by decide +kernel
theorem dL_build_98 : decode cL_build 98 = .ok (.goto (-44), 3) := by decide +kernel
theorem dL_build_101 : decode cL_build 101 = .ok (.aload_n 2, 1) := by decide +kernel
theorem dL_build_102 : decode cL_build 102 = .ok (.areturn, 1) := by decide +kernel
