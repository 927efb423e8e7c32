theorem dL_cell_0 : decode cL_cell 0 = .ok (.iload_n 1, 1) := by decide +kernel
theorem dL_cell_1 : decode cL_cell 1 = .ok (.aload_n 0, 1) := by decide +kernel
theorem dL_cell_2 : decode cL_cell 2 = .ok (.arraylength, 1) := by decide +kernel
theorem dL_cell_3 : decode cL_cell 3 = .ok (.if_icmp .ge 9, 3) := by decide +kernel
theorem dL_cell_6 : decode cL_cell 6 = .ok (.aload_n 0, 1) := by decide +kernel
theorem dL_cell_7 : decode cL_cell 7 = .ok (.iload_n 1, 1) := by decide +kernel
theorem dL_cell_8 : decode cL_cell 8 = .ok (.iaload, 1) := by decide +kernel
theorem dL_cell_9 : decode cL_cell 9 = .ok (.goto 17, 3) := by decide +kernel
theorem dL_cell_12 : decode cL_cell 12 = .ok (.sipush 7919, 3) := by decide +kernel
theorem dL_cell_15 : decode cL_cell 15 = .ok (.iload_n 1, 1) := by decide +kernel
theorem dL_cell_16 : decode cL_cell 16 = .ok (.bipush 113, 2) := by decide +kernel
theorem dL_cell_18 : decode cL_cell 18 = .ok (.iadd, 1) := by decide +kernel
theorem dL_cell_19 : decode cL_cell 19 = .ok (.imul, 1) := by decide +kernel
theorem dL_cell_20 : decode cL_cell 20 = .ok (.iload_n 1, 1) := by decide +kernel
theorem dL_cell_21 : decode cL_cell 21 = .ok (.sipush 2297, 3) := by decide +kernel
theorem dL_cell_24 : decode cL_cell 24 = .ok (.iadd, 1) := by decide +kernel
theorem dL_cell_25 : decode cL_cell 25 = .ok (.imul, 1) := by decide +kernel
theorem dL_cell_26 : decode cL_cell 26 = .ok (.ireturn, 1) := by decide +kernel
theorem dL_low_0 : decode cL_low 0 = .ok (.iload_n 0, 1) := by decide +kernel
theorem dL_low_1 : decode cL_low 1 = .ok (.ldc 7, 2) := by decide +kernel
theorem dL_low_3 : decode cL_low 3 = .ok (.iand, 1) := by decide +kernel
theorem dL_low_4 : decode cL_low 4 = .ok (.iload_n 1, 1) := by decide +kernel
theorem dL_low_5 : decode cL_low 5 = .ok (.irem, 1) := by decide +kernel
theorem dL_low_6 : decode cL_low 6 = .ok (.ireturn, 1) := by decide +kernel
set_option maxRecDepth 20000 in
theorem ggL_add_X2_add : GoodIn wsL_add wsX2_add := goodIn_ca (goodIn_ca (goodIn_r _ [8, 9, 10, 11, 12, 13, 14, 15, 16, 17, 18, 19, 20, 21, 7, 22, 23, 24, 25, 26, 27, 28, 29, 30, 31, 32, 33, 34, 35, 36, 37, 38, 39, 40, 41, 42, 43, 44, 45, 46, 47, 48, 49, 50, 51, 52, 53, 54, 55, 56, 57, 58, 59, 60, 61, 62, 63, 64, 65, 66, 67, 68, 69, 70, 71, 72, 73, 74, 75, 76, 77, 78, 79, 80, 81, 82, 83, 84, 85, 86, 87, 88, 89, 90, 91, 92, 93, 94, 95, 96, 97, 98, 99, 100, 101, 102, 103, 104, 105, 106, 107, 108, 109, 110, 111, 112, 113, 114, 115, 116, 117] (by decide +kernel) (by decide +kernel)) (goodIn_sub (fun _ h => List.mem_cons_of_mem _ (List.mem_append_left _ (List.mem_append_right _ h))) (by decide +kernel))) (goodIn_sub (fun _ h => List.mem_cons_of_mem _ (List.mem_append_right _ h)) (by decide +kernel))
set_option maxRecDepth 20000 in
theorem gL_add_X2_add : GoodIn wsL_add (wsV RL 8 RX2 yX2_add wsX2_add) := goodIn_app (goodIn_of _ (by decide +kernel)) ggL_add_X2_add
theorem dL_add_0 : decode cL_add 0 = .ok (.aload_n 0, 1) := by decide +kernel
theorem dL_add_1 : decode cL_add 1 = .ok (.iload_n 1, 1) := by decide +kernel
theorem dL_add_2 : decode cL_add 2 = .ok (.iload_n 2, 1) := by decide +kernel
theorem dL_add_3 : decode cL_add 3 = .ok (.iload_n 3, 1) := by decide +kernel
theorem dL_add_4 : decode cL_add 4 = .ok (.iload 4, 2) := by decide +kernel
theorem dL_add_6 : decode cL_add 6 = .ok (.iload 5, 2) := by decide +kernel
theorem dL_add_8 : decode cL_add 8 = .ok (.iload 6, 2) := by decide +kernel
theorem dL_add_10 : decode cL_add 10 = .ok (.invokevirtual 8, 3) := by decide +kernel
theorem dL_add_13 : decode cL_add 13 = .ok (.ireturn, 1) := by decide +kernel
theorem dL_add_14 : decode cL_add 14 = .ok (.astore 7, 2) := by decide +kernel
theorem dL_add_16 : decode cL_add 16 = .ok (.ldc 16, 2) := by decide +kernel
theorem dL_add_18 : decode cL_add 18 = .ok (.ireturn, 1) := by decide +kernel
theorem dL_add_19 : decode cL_add 19 = .ok (.astore 7, 2) := by decide +kernel
theorem dL_add_21 : decode cL_add 21 = .ok (.ldc 16, 2) := by decide +kernel
theorem dL_add_23 : decode cL_add 23 = .ok (.ireturn, 1) := by decide +kernel
set_option maxRecDepth 20000 in
theorem ggL_tends_X2_move : GoodIn wsL_tends wsX2_move := goodIn_ca (goodIn_r _ [7, 8, 9, 10, 11, 6, 12, 13, 14, 15, 16, 17, 18, 19, 20, 21, 22, 23, 24, 25, 26, 27, 28, 29, 30, 31, 32, 33, 34, 35, 36, 37, 38, 39, 40, 41, 42, 43, 44, 45, 46, 47, 48, 49, 50, 51, 52, 53, 54, 55, 56, 57, 58, 59, 60, 61, 62, 63, 64, 65, 66, 67, 68, 69, 70, 71, 72, 73, 74, 75, 76, 77, 78, 79, 80, 81, 82, 83, 84, 85, 86, 87, 88, 89, 90, 91, 92, 93, 94, 95, 96, 97, 98, 99, 100, 101, 102, 103, 104, 105, 106, 107, 108, 109, 110, 111, 112, 113, 114, 115, 116, 117, 118, 119, 120, 121, 122, 123, 124, 125, 126, 127, 128, 129, 130, 131, 132, 133, 134, 135, 136, 137, 138, 139, 140, 141, 142, 143, 148, 149, 150, 151, 152, 153, 154, 155, 156, 157, 158, 159, 160, 161, 162, 163] (by decide +kernel) (by decide +kernel)) (goodIn_sub (fun _ h => List.mem_cons_of_mem _ (List.mem_append_right _ h)) (by decide +kernel))
set_option maxRecDepth 20000 in
theorem gL_tends_X2_move : GoodIn wsL_tends (wsV RL 19 RX2 yX2_move wsX2_move) := goodIn_app (goodIn_of _ (by decide +kernel)) ggL_tends_X2_move
set_option maxRecDepth 20000 in
theorem ggL_tends_X2_remove : GoodIn wsL_tends wsX2_remove := goodIn_ca (goodIn_r _ [147, 8, 14, 15, 16, 6, 17, 18, 19, 20, 21, 22, 23, 24, 25, 43, 44, 45, 46, 47, 48, 49, 50, 51, 13, 52, 53, 54, 26, 27, 28, 29, 30, 31, 32, 33, 34, 35, 36, 37, 38, 39, 40, 41, 42, 55, 56, 57, 58, 59, 60, 61, 62, 63, 64, 65, 66, 67, 68, 69, 70, 71, 72, 73, 74, 75, 76, 77, 78, 79, 80, 81, 82, 83, 84, 133, 134, 135, 136, 137, 138, 139, 140, 141, 142, 143, 148, 149, 150, 151, 152, 153, 154, 155, 156, 157, 158, 159, 160, 161, 162, 163] (by decide +kernel) (by decide +kernel)) (goodIn_sub (fun _ h => List.mem_cons_of_mem _ (List.mem_append_right _ h)) (by decide +kernel))
set_option maxRecDepth 20000 in
theorem gL_tends_X2_remove : GoodIn wsL_tends (wsV RL 23 RX2 yX2_remove wsX2_remove) := goodIn_app (goodIn_of _ (by decide +kernel)) ggL_tends_X2_remove
theorem dL_tends_0 : decode cL_tends 0 = .ok (.iload_n 1, 1) := by decide +kernel
theorem dL_tends_1 : decode cL_tends 1 = .ok (.ifCond .ne 12, 3) := by decide +kernel
theorem dL_tends_4 : decode cL_tends 4 = .ok (.aload_n 0, 1) := by decide +kernel
theorem dL_tends_5 : decode cL_tends 5 = .ok (.iload_n 2, 1) := by decide +kernel
theorem dL_tends_6 : decode cL_tends 6 = .ok (.iload_n 3, 1) := by decide +kernel
theorem dL_tends_7 : decode cL_tends 7 = .ok (.invokevirtual 19, 3) := by decide +kernel
theorem dL_tends_10 : decode cL_tends 10 = .ok (.goto 8, 3) := by decide +kernel
theorem dL_tends_13 : decode cL_tends 13 = .ok (.aload_n 0, 1) := by decide +kernel
theorem dL_tends_14 : decode cL_tends 14 = .ok (.iload_n 2, 1) := by decide +kernel
theorem dL_tends_15 : decode cL_tends 15 = .ok (.invokevirtual 23, 3) := by decide +kernel
theorem dL_tends_18 : decode cL_tends 18 = .ok (.ireturn, 1) := by decide +kernel
theorem dL_tends_19 : decode cL_tends 19 = .ok (.astore 4, 2) := by decide +kernel
theorem dL_tends_21 : decode cL_tends 21 = .ok (.ldc 16, 2) := by decide +kernel
theorem dL_tends_23 : decode cL_tends 23 = .ok (.ireturn, 1) := by decide +kernel
set_option maxRecDepth 20000 in
theorem ggL_judge_X2_judge : GoodIn wsL_judge wsX2_judge := goodIn_ca (goodIn_r _ [7, 8, 9, 10, 11, 12, 13, 14, 15, 16, 6, 17, 18, 19, 20, 21, 22, 23, 24, 25, 26, 27, 28, 29, 30, 31, 32, 33, 34, 35, 36, 37, 38, 39, 40, 41, 42, 43, 44, 45, 46, 47, 48, 49, 50, 51, 52, 53, 54, 55, 56, 57, 58, 59, 60, 61, 62, 63, 64, 65, 66, 67, 68, 69, 70, 71, 72, 73, 74, 75, 76, 77, 78, 79, 80, 81, 82, 83] (by decide +kernel) (by decide +kernel)) (goodIn_sub (fun _ h => List.mem_cons_of_mem _ (List.mem_append_right _ h)) (by decide +kernel))
set_option maxRecDepth 20000 in
theorem gL_judge_X2_judge : GoodIn wsL_judge (wsV RL 29 RX2 yX2_judge wsX2_judge) := goodIn_app (goodIn_of _ (by decide +kernel)) ggL_judge_X2_judge
theorem dL_judge_0 : decode cL_judge 0 = .ok (.aload_n 0, 1) := by decide +kernel
theorem dL_judge_1 : decode cL_judge 1 = .ok (.iload_n 1, 1) := by decide +kernel
theorem dL_judge_2 : decode cL_judge 2 = .ok (.iload_n 2, 1) := by decide +kernel
theorem dL_judge_3 : decode cL_judge 3 = .ok (.iload_n 3, 1) := by decide +kernel
theorem dL_judge_4 : decode cL_judge 4 = .ok (.invokevirtual 29, 3) := by decide +kernel
theorem dL_judge_7 : decode cL_judge 7 = .ok (.ifCond .eq 7, 3) := by decide +kernel
theorem dL_judge_10 : decode cL_judge 10 = .ok (.iconst 1, 1) := by decide +kernel
theorem dL_judge_11 : decode cL_judge 11 = .ok (.goto 4, 3) := by decide +kernel
theorem dL_judge_14 : decode cL_judge 14 = .ok (.iconst 0, 1) := by decide +kernel
theorem dL_judge_15 : decode cL_judge 15 = .ok (.ireturn, 1) := by decide +kernel
theorem dL_judge_16 : decode cL_judge 16 = .ok (.astore 4, 2) := by decide +kernel
theorem dL_judge_18 : decode cL_judge 18 = .ok (.ldc 16, 2) := by decide +kernel
theorem dL_judge_20 : decode cL_judge 20 = .ok (.ireturn, 1) := by decide +kernel
set_option maxRecDepth 20000 in
theorem ggL_decider_X2_decider : GoodIn wsL_decider wsX2_decider := goodIn_ca (goodIn_ca (goodIn_r _ [6, 7, 8, 9, 10, 11, 5, 12, 13, 14, 15, 16, 17, 18, 19, 20, 21, 22, 23, 24, 25, 26, 27, 28, 29, 30, 31, 32, 33, 34, 35, 36, 37, 38, 39, 40, 41, 42, 43, 44, 45, 46, 47, 48, 49, 50, 51, 52, 53, 54, 55, 56, 57, 58, 59, 60, 61, 62, 63, 64, 65, 66, 67, 68, 69, 70, 71, 72, 73, 74, 75, 76, 77, 78, 79] (by decide +kernel) (by decide +kernel)) (goodIn_sub (fun _ h => List.mem_cons_of_mem _ (List.mem_append_left _ (List.mem_append_right _ h))) (by decide +kernel))) (goodIn_sub (fun _ h => List.mem_cons_of_mem _ (List.mem_append_right _ h)) (by decide +kernel))
set_option maxRecDepth 20000 in
theorem gL_decider_X2_decider : GoodIn wsL_decider (wsV RL 33 RX2 yX2_decider wsX2_decider) := goodIn_app (goodIn_of _ (by decide +kernel)) ggL_decider_X2_decider
theorem dL_decider_0 : decode cL_decider 0 = .ok (.aload_n 0, 1) := by decide +kernel
theorem dL_decider_1 : decode cL_decider 1 = .ok (.iload_n 1, 1) := by decide +kernel
theorem dL_decider_2 : decode cL_decider 2 = .ok (.iload_n 2, 1) := by decide +kernel
theorem dL_decider_3 : decode cL_decider 3 = .ok (.iload_n 3, 1) := by decide +kernel
theorem dL_decider_4 : decode cL_decider 4 = .ok (.invokevirtual 33, 3) := by decide +kernel
theorem dL_decider_7 : decode cL_decider 7 = .ok (.ireturn, 1) := by decide +kernel
theorem dL_decider_8 : decode cL_decider 8 = .ok (.astore 4, 2) := by decide +kernel
theorem dL_decider_10 : decode cL_decider 10 = .ok (.iconst (-1), 1) := by decide +kernel
theorem dL_decider_11 : decode cL_decider 11 = .ok (.ireturn, 1) := by decide +kernel
set_option maxRecDepth 20000 in
theorem ggL_shadowedBy_X2_shadowedBy : GoodIn wsL_shadowedBy wsX2_shadowedBy := goodIn_ca (goodIn_ca (goodIn_r _ [6, 7, 8, 9, 10, 11, 12, 13, 5, 14, 15, 16, 17, 18, 19, 20, 21, 22, 23, 24, 25, 26, 27, 28, 29, 30, 31, 32, 33, 34, 35, 36, 37, 38, 39, 40, 41, 42, 43, 44, 45, 46, 47, 48, 49, 50, 51, 52, 53, 54, 55, 56, 57, 58, 59, 60, 61, 62, 63, 64, 65, 66, 67, 68, 69, 70, 71, 72, 73, 74] (by decide +kernel) (by decide +kernel)) (goodIn_sub (fun _ h => List.mem_cons_of_mem _ (List.mem_append_left _ (List.mem_append_right _ h))) (by decide +kernel))) (goodIn_sub (fun _ h => List.mem_cons_of_mem _ (List.mem_append_right _ h)) (by decide +kernel))
set_option maxRecDepth 20000 in
theorem gL_shadowedBy_X2_shadowedBy : GoodIn wsL_shadowedBy (wsV RL 39 RX2 yX2_shadowedBy wsX2_shadowedBy) := goodIn_app (goodIn_of _ (by decide +kernel)) ggL_shadowedBy_X2_shadowedBy
theorem dL_shadowedBy_0 : decode cL_shadowedBy 0 = .ok (.aload_n 0, 1) := by decide +kernel
theorem dL_shadowedBy_1 : decode cL_shadowedBy 1 = .ok (.iload_n 1, 1) := by decide +kernel
theorem dL_shadowedBy_2 : decode cL_shadowedBy 2 = .ok (.invokevirtual 39, 3) := by decide +kernel
theorem dL_shadowedBy_5 : decode cL_shadowedBy 5 = .ok (.ireturn, 1) := by decide +kernel
theorem dL_shadowedBy_6 : decode cL_shadowedBy 6 = .ok (.astore_n 2, 1) := by decide +kernel
theorem dL_shadowedBy_7 : decode cL_shadowedBy 7 = .ok (.iconst (-1), 1) := by decide +kernel
theorem dL_shadowedBy_8 : decode cL_shadowedBy 8 = .ok (.ireturn, 1) := by decide +kernel
set_option maxRecDepth 20000 in
theorem ggL_act_L_low : GoodIn wsL_act wsL_low := goodIn_r _ [4, 5] (by decide +kernel) (by decide +kernel)
set_option maxRecDepth 20000 in
theorem gL_act_L_low : GoodIn wsL_act (va_wsS RL 42 yL_low wsL_low) := goodIn_app (goodIn_of _ (by decide +kernel)) ggL_act_L_low
set_option maxRecDepth 20000 in
theorem ggL_act_X2_rules : GoodIn wsL_act wsX2_rules := goodIn_r _ [10, 11, 12, 13, 14, 15, 16, 17, 301, 302, 303, 304, 305, 306, 307, 308] (by decide +kernel) (by decide +kernel)
set_option maxRecDepth 20000 in
theorem gL_act_X2_rules : GoodIn wsL_act (wsV RL 47 RX2 yX2_rules wsX2_rules) := goodIn_app (goodIn_of _ (by decide +kernel)) ggL_act_X2_rules
set_option maxRecDepth 20000 in
theorem ggL_act_L_add : GoodIn wsL_act wsL_add := goodIn_ca (goodIn_ca (goodIn_r _ [20, 21, 22, 23, 24, 25, 26, 9, 27, 28, 29, 30, 31, 11, 32, 33, 34, 35, 36, 37, 38, 39, 40, 12, 13, 14, 15, 16, 17, 41, 42, 43, 44, 45, 46, 47, 48, 49, 50, 51, 52, 53, 54, 55, 56, 57, 58, 59, 60, 61, 62, 63, 64, 65, 66, 67, 68, 69, 70, 71, 72, 73, 74, 75, 76, 77, 78, 79, 80, 81, 82, 83, 84, 85, 86, 87, 88, 89, 90, 91, 92, 93, 94, 95, 96, 97, 98, 99, 100, 101, 102, 103, 104, 105, 106, 107, 108, 109, 110, 111, 112, 113, 301, 302, 303, 304, 305, 309, 310, 311, 312, 313, 314, 315, 316, 306, 307, 308] (by decide +kernel) (by decide +kernel)) (goodIn_sub (fun _ h => List.mem_cons_of_mem _ (List.mem_append_left _ (List.mem_append_left _ (List.mem_append_right _ h)))) (by decide +kernel))) (goodIn_sub (fun _ h => List.mem_cons_of_mem _ (List.mem_append_left _ (List.mem_append_right _ h))) (by decide +kernel))
set_option maxRecDepth 20000 in
theorem gL_act_L_add : GoodIn wsL_act (va_wsS RL 51 yL_add wsL_add) := goodIn_app (goodIn_of _ (by decide +kernel)) ggL_act_L_add
set_option maxRecDepth 20000 in
theorem ggL_act_L_judge : GoodIn wsL_act wsL_judge := goodIn_ca (goodIn_r _ [116, 21, 23, 117, 118, 119, 9, 120, 121, 11, 122, 123, 124, 125, 126, 127, 128, 129, 28, 29, 130, 131, 132, 133, 12, 13, 14, 15, 16, 17, 134, 135, 136, 137, 138, 139, 140, 141, 142, 143, 144, 145, 146, 147, 148, 149, 66, 150, 151, 152, 37, 153, 57, 154, 155, 156, 157, 56, 58, 158, 159, 160, 34, 161, 47, 48, 162, 163, 301, 302, 303, 304, 305, 312, 313, 314, 315, 316, 306, 307, 308, 309, 310, 311] (by decide +kernel) (by decide +kernel)) (goodIn_sub (fun _ h => List.mem_cons_of_mem _ (List.mem_append_left _ (List.mem_append_left _ (List.mem_append_right _ h)))) (by decide +kernel))
set_option maxRecDepth 20000 in
theorem gL_act_L_judge : GoodIn wsL_act (va_wsS RL 54 yL_judge wsL_judge) := goodIn_app (goodIn_of _ (by decide +kernel)) ggL_act_L_judge
set_option maxRecDepth 20000 in
theorem ggL_act_L_tends : GoodIn wsL_act wsL_tends := goodIn_ca (goodIn_r _ [166, 167, 23, 168, 169, 170, 9, 171, 11, 172, 173, 174, 175, 124, 176, 177, 178, 179, 180, 181, 12, 13, 14, 15, 16, 17, 134, 135, 136, 137, 138, 139, 140, 141, 142, 143, 144, 145, 146, 147, 148, 149, 66, 182, 183, 184, 185, 186, 187, 188, 189, 190, 191, 192, 126, 193, 155, 156, 37, 157, 56, 58, 158, 159, 160, 34, 161, 47, 48, 162, 163, 194, 195, 196, 197, 198, 199, 200, 201, 64, 65, 202, 111, 112, 113, 203, 204, 205, 206, 207, 208, 209, 210, 71, 72, 73, 74, 75, 76, 77, 78, 79, 80, 81, 82, 83, 84, 85, 86, 87, 88, 89, 90, 91, 92, 93, 94, 95, 96, 97, 98, 99, 100, 101, 102, 103, 104, 105, 106, 107, 108, 109, 110, 211, 212, 213, 214, 215, 216, 217, 218, 219, 220, 221, 222, 223, 224, 225, 301, 302, 303, 304, 305, 306, 307, 308, 312, 313, 314, 315, 316, 309, 310, 311] (by decide +kernel) (by decide +kernel)) (goodIn_sub (fun _ h => List.mem_cons_of_mem _ (List.mem_append_right _ h)) (by decide +kernel))
set_option maxRecDepth 20000 in
theorem gL_act_L_tends : GoodIn wsL_act (va_wsS RL 57 yL_tends wsL_tends) := goodIn_app (goodIn_of _ (by decide +kernel)) ggL_act_L_tends
set_option maxRecDepth 20000 in
theorem ggL_act_X2_shorten : GoodIn wsL_act wsX2_shorten := goodIn_r _ [229, 11, 12, 13, 14, 15, 16, 17, 230, 231, 232, 9, 233, 124, 134, 135, 136, 137, 138, 139, 140, 141, 142, 143, 144, 145, 146, 147, 148, 149, 66, 234, 235, 236, 237, 238, 239, 240, 241, 242, 162, 163, 187, 188, 189, 190, 191, 192, 126, 193, 155, 156, 37, 157, 56, 58, 158, 159, 160, 34, 161, 47, 48, 194, 195, 196, 197, 198, 199, 200, 201, 64, 65, 202, 111, 112, 113, 243, 244, 245, 246, 247, 248, 249, 250, 59, 57, 251, 252, 253, 254, 255, 256, 257, 258, 259, 260, 261, 262, 263, 264, 265, 266, 267, 268, 269, 270, 271, 272, 33, 273, 108, 82, 109, 274, 81, 83, 275, 42, 43, 44, 45, 46, 49, 50, 51, 301, 302, 303, 304, 305, 306, 307, 308, 312, 313, 314, 315, 316, 309, 310, 311] (by decide +kernel) (by decide +kernel)
set_option maxRecDepth 20000 in
theorem gL_act_X2_shorten : GoodIn wsL_act (wsV RL 60 RX2 yX2_shorten wsX2_shorten) := goodIn_app (goodIn_of _ (by decide +kernel)) ggL_act_X2_shorten
set_option maxRecDepth 20000 in
theorem ggL_act_X2_sortByHits : GoodIn wsL_act wsX2_sortByHits := goodIn_r _ [279, 280, 281, 282, 9, 283, 11, 124, 125, 12, 13, 14, 15, 16, 17, 134, 135, 136, 137, 138, 139, 140, 141, 142, 143, 144, 145, 146, 147, 148, 149, 66, 284, 285, 286, 37, 287, 59, 288, 289, 290, 291, 56, 57, 58, 292, 293, 294, 34, 295, 48, 273, 108, 82, 109, 47, 274, 81, 83, 296, 216, 217, 218, 219, 220, 221, 297, 298, 299, 300, 301, 302, 303, 304, 305, 312, 313, 314, 315, 316, 306, 307, 308, 309, 310, 311] (by decide +kernel) (by decide +kernel)
set_option maxRecDepth 20000 in
theorem gL_act_X2_sortByHits : GoodIn wsL_act (wsV RL 63 RX2 yX2_sortByHits wsX2_sortByHits) := goodIn_app (goodIn_of _ (by decide +kernel)) ggL_act_X2_sortByHits
theorem dL_act_0 : decode cL_act 0 = .ok (.iload_n 1, 1) := by decide +kernel
theorem dL_act_1 : decode cL_act 1 = .ok (.bipush 23, 2) := by decide +kernel
theorem dL_act_3 : decode cL_act 3 = .ok (.ishr, 1) := by decide +kernel
theorem dL_act_4 : decode cL_act 4 = .ok (.bipush 8, 2) := by decide +kernel
theorem dL_act_6 : decode cL_act 6 = .ok (.invokestatic 42, 3) := by decide +kernel
theorem dL_act_9 : decode cL_act 9 = .ok (.ifCond .ne 7, 3) := by decide +kernel
theorem dL_act_12 : decode cL_act 12 = .ok (.iconst 1, 1) := by decide +kernel
theorem dL_act_13 : decode cL_act 13 = .ok (.goto 4, 3) := by decide +kernel
theorem dL_act_16 : decode cL_act 16 = .ok (.iconst 0, 1) := by decide +kernel
theorem dL_act_17 : decode cL_act 17 = .ok (.istore_n 2, 1) := by decide +kernel
theorem dL_act_18 : decode cL_act 18 = .ok (.iload_n 1, 1) := by decide +kernel
theorem dL_act_19 : decode cL_act 19 = .ok (.iconst 3, 1) := by decide +kernel
theorem dL_act_20 : decode cL_act 20 = .ok (.ishr, 1) := by decide +kernel
theorem dL_act_21 : decode cL_act 21 = .ok (.iload_n 2, 1) := by decide +kernel
theorem dL_act_22 : decode cL_act 22 = .ok (.ifCond .eq 8, 3) := by decide +kernel
theorem dL_act_25 : decode cL_act 25 = .ok (.bipush 36, 2) := by decide +kernel
theorem dL_act_27 : decode cL_act 27 = .ok (.goto 5, 3) := by decide +kernel
theorem dL_act_30 : decode cL_act 30 = .ok (.bipush 32, 2) := by decide +kernel
theorem dL_act_32 : decode cL_act 32 = .ok (.invokestatic 42, 3) := by decide +kernel
theorem dL_act_35 : decode cL_act 35 = .ok (.istore_n 3, 1) := by decide +kernel
theorem dL_act_36 : decode cL_act 36 = .ok (.iload_n 2, 1) := by decide +kernel
theorem dL_act_37 : decode cL_act 37 = .ok (.ifCond .eq 15, 3) := by decide +kernel
theorem dL_act_40 : decode cL_act 40 = .ok (.iload_n 1, 1) := by decide +kernel
theorem dL_act_41 : decode cL_act 41 = .ok (.bipush 6, 2) := by decide +kernel
theorem dL_act_43 : decode cL_act 43 = .ok (.ishr, 1) := by decide +kernel
theorem dL_act_44 : decode cL_act 44 = .ok (.bipush 36, 2) := by decide +kernel
theorem dL_act_46 : decode cL_act 46 = .ok (.invokestatic 42, 3) := by decide +kernel
theorem dL_act_49 : decode cL_act 49 = .ok (.goto 16, 3) := by decide +kernel
theorem dL_act_52 : decode cL_act 52 = .ok (.iload_n 3, 1) := by decide +kernel
theorem dL_act_53 : decode cL_act 53 = .ok (.iload_n 1, 1) := by decide +kernel
theorem dL_act_54 : decode cL_act 54 = .ok (.bipush 6, 2) := by decide +kernel
theorem dL_act_56 : decode cL_act 56 = .ok (.ishr, 1) := by decide +kernel
theorem dL_act_57 : decode cL_act 57 = .ok (.bipush 32, 2) := by decide +kernel
theorem dL_act_59 : decode cL_act 59 = .ok (.iload_n 3, 1) := by decide +kernel
theorem dL_act_60 : decode cL_act 60 = .ok (.isub, 1) := by decide +kernel
theorem dL_act_61 : decode cL_act 61 = .ok (.invokestatic 42, 3) := by decide +kernel
theorem dL_act_64 : decode cL_act 64 = .ok (.iadd, 1) := by decide +kernel
theorem dL_act_65 : decode cL_act 65 = .ok (.istore 4, 2) := by decide +kernel
theorem dL_act_67 : decode cL_act 67 = .ok (.iload_n 1, 1) := by decide +kernel
theorem dL_act_68 : decode cL_act 68 = .ok (.bipush 9, 2) := by decide +kernel
theorem dL_act_70 : decode cL_act 70 = .ok (.ishr, 1) := by decide +kernel
theorem dL_act_71 : decode cL_act 71 = .ok (.iload_n 2, 1) := by decide +kernel
theorem dL_act_72 : decode cL_act 72 = .ok (.ifCond .eq 8, 3) := by decide +kernel
theorem dL_act_75 : decode cL_act 75 = .ok (.bipush 36, 2) := by decide +kernel
theorem dL_act_77 : decode cL_act 77 = .ok (.goto 5, 3) := by decide +kernel
theorem dL_act_80 : decode cL_act 80 = .ok (.bipush 32, 2) := by decide +kernel
theorem dL_act_82 : decode cL_act 82 = .ok (.invokestatic 42, 3) := by decide +kernel
theorem dL_act_85 : decode cL_act 85 = .ok (.istore 5, 2) := by decide +kernel
theorem dL_act_87 : decode cL_act 87 = .ok (.iload_n 2, 1) := by decide +kernel
theorem dL_act_88 : decode cL_act 88 = .ok (.ifCond .eq 15, 3) := by decide +kernel
theorem dL_act_91 : decode cL_act 91 = .ok (.iload_n 1, 1) := by decide +kernel
theorem dL_act_92 : decode cL_act 92 = .ok (.bipush 12, 2) := by decide +kernel
theorem dL_act_94 : decode cL_act 94 = .ok (.ishr, 1) := by decide +kernel
theorem dL_act_95 : decode cL_act 95 = .ok (.bipush 36, 2) := by decide +kernel
theorem dL_act_97 : decode cL_act 97 = .ok (.invokestatic 42, 3) := by decide +kernel
theorem dL_act_100 : decode cL_act 100 = .ok (.goto 18, 3) := by decide +kernel
theorem dL_act_103 : decode cL_act 103 = .ok (.iload 5, 2) := by decide +kernel
theorem dL_act_105 : decode cL_act 105 = .ok (.iload_n 1, 1) := by decide +kernel
theorem dL_act_106 : decode cL_act 106 = .ok (.bipush 12, 2) := by decide +kernel
theorem dL_act_108 : decode cL_act 108 = .ok (.ishr, 1) := by decide +kernel
theorem dL_act_109 : decode cL_act 109 = .ok (.bipush 32, 2) := by decide +kernel
theorem dL_act_111 : decode cL_act 111 = .ok (.iload 5, 2) := by decide +kernel
theorem dL_act_113 : decode cL_act 113 = .ok (.isub, 1) := by decide +kernel
theorem dL_act_114 : decode cL_act 114 = .ok (.invokestatic 42, 3) := by decide +kernel
theorem dL_act_117 : decode cL_act 117 = .ok (.iadd, 1) := by decide +kernel
theorem dL_act_118 : decode cL_act 118 = .ok (.istore 6, 2) := by decide +kernel
theorem dL_act_120 : decode cL_act 120 = .ok (.iload_n 1, 1) := by decide +kernel
theorem dL_act_121 : decode cL_act 121 = .ok (.iconst 4, 1) := by decide +kernel
theorem dL_act_122 : decode cL_act 122 = .ok (.ishr, 1) := by decide +kernel
theorem dL_act_123 : decode cL_act 123 = .ok (.iload_n 2, 1) := by decide +kernel
theorem dL_act_124 : decode cL_act 124 = .ok (.ifCond .eq 8, 3) := by decide +kernel
theorem dL_act_127 : decode cL_act 127 = .ok (.bipush 20, 2) := by decide +kernel
theorem dL_act_129 : decode cL_act 129 = .ok (.goto 9, 3) := by decide +kernel
theorem dL_act_132 : decode cL_act 132 = .ok (.aload_n 0, 1) := by decide +kernel
theorem dL_act_133 : decode cL_act 133 = .ok (.invokevirtual 47, 3) := by decide +kernel
theorem dL_act_136 : decode cL_act 136 = .ok (.iconst 1, 1) := by decide +kernel
theorem dL_act_137 : decode cL_act 137 = .ok (.iadd, 1) := by decide +kernel
theorem dL_act_138 : decode cL_act 138 = .ok (.invokestatic 42, 3) := by decide +kernel
theorem dL_act_141 : decode cL_act 141 = .ok (.istore 7, 2) := by decide +kernel
theorem dL_act_143 : decode cL_act 143 = .ok (.iload_n 1, 1) := by decide +kernel
theorem dL_act_144 : decode cL_act 144 = .ok (.bipush 20, 2) := by decide +kernel
theorem dL_act_146 : decode cL_act 146 = .ok (.invokestatic 42, 3) := by decide +kernel
theorem dL_act_149 : decode cL_act 149 = .ok (.istore 8, 2) := by decide +kernel
theorem dL_act_151 : decode cL_act 151 = .ok (.iload 8, 2) := by decide +kernel
theorem dL_act_153 : decode cL_act 153 = .ok (.bipush 6, 2) := by decide +kernel
theorem dL_act_155 : decode cL_act 155 = .ok (.if_icmp .ge 58, 3) := by decide +kernel
theorem dL_act_158 : decode cL_act 158 = .ok (.aload_n 0, 1) := by decide +kernel
theorem dL_act_159 : decode cL_act 159 = .ok (.iload_n 3, 1) := by decide +kernel
theorem dL_act_160 : decode cL_act 160 = .ok (.iload 4, 2) := by decide +kernel
theorem dL_act_162 : decode cL_act 162 = .ok (.iload 5, 2) := by decide +kernel
theorem dL_act_164 : decode cL_act 164 = .ok (.iload 6, 2) := by decide +kernel
theorem dL_act_166 : decode cL_act 166 = .ok (.iload_n 1, 1) := by decide +kernel
theorem dL_act_167 : decode cL_act 167 = .ok (.bipush 14, 2) := by decide +kernel
theorem dL_act_169 : decode cL_act 169 = .ok (.ishr, 1) := by decide +kernel
theorem dL_act_170 : decode cL_act 170 = .ok (.iload_n 2, 1) := by decide +kernel
theorem dL_act_171 : decode cL_act 171 = .ok (.ifCond .eq 8, 3) := by decide +kernel
theorem dL_act_174 : decode cL_act 174 = .ok (.bipush 20, 2) := by decide +kernel
theorem dL_act_176 : decode cL_act 176 = .ok (.goto 5, 3) := by decide +kernel
theorem dL_act_179 : decode cL_act 179 = .ok (.bipush 15, 2) := by decide +kernel
theorem dL_act_181 : decode cL_act 181 = .ok (.invokestatic 42, 3) := by decide +kernel
theorem dL_act_184 : decode cL_act 184 = .ok (.iload_n 2, 1) := by decide +kernel
theorem dL_act_185 : decode cL_act 185 = .ok (.ifCond .eq 7, 3) := by decide +kernel
theorem dL_act_188 : decode cL_act 188 = .ok (.iconst 0, 1) := by decide +kernel
theorem dL_act_189 : decode cL_act 189 = .ok (.goto 4, 3) := by decide +kernel
theorem dL_act_192 : decode cL_act 192 = .ok (.iconst 1, 1) := by decide +kernel
theorem dL_act_193 : decode cL_act 193 = .ok (.iadd, 1) := by decide +kernel
theorem dL_act_194 : decode cL_act 194 = .ok (.iload_n 1, 1) := by decide +kernel
theorem dL_act_195 : decode cL_act 195 = .ok (.bipush 18, 2) := by decide +kernel
theorem dL_act_197 : decode cL_act 197 = .ok (.ishr, 1) := by decide +kernel
theorem dL_act_198 : decode cL_act 198 = .ok (.iconst 1, 1) := by decide +kernel
theorem dL_act_199 : decode cL_act 199 = .ok (.iand, 1) := by decide +kernel
theorem dL_act_200 : decode cL_act 200 = .ok (.iconst 1, 1) := by decide +kernel
theorem dL_act_201 : decode cL_act 201 = .ok (.if_icmp .ne 7, 3) := by decide +kernel
theorem dL_act_204 : decode cL_act 204 = .ok (.iconst 1, 1) := by decide +kernel
theorem dL_act_205 : decode cL_act 205 = .ok (.goto 4, 3) := by decide +kernel
theorem dL_act_208 : decode cL_act 208 = .ok (.iconst 0, 1) := by decide +kernel
theorem dL_act_209 : decode cL_act 209 = .ok (.invokestatic 51, 3) := by decide +kernel
theorem dL_act_212 : decode cL_act 212 = .ok (.ireturn, 1) := by decide +kernel
theorem dL_act_213 : decode cL_act 213 = .ok (.iload 8, 2) := by decide +kernel
theorem dL_act_215 : decode cL_act 215 = .ok (.bipush 14, 2) := by decide +kernel
theorem dL_act_217 : decode cL_act 217 = .ok (.if_icmp .ge 28, 3) := by decide +kernel
theorem dL_act_220 : decode cL_act 220 = .ok (.aload_n 0, 1) := by decide +kernel
theorem dL_act_221 : decode cL_act 221 = .ok (.iload_n 3, 1) := by decide +kernel
theorem dL_act_222 : decode cL_act 222 = .ok (.iload 5, 2) := by decide +kernel
theorem dL_act_224 : decode cL_act 224 = .ok (.iload_n 1, 1) := by decide +kernel
theorem dL_act_225 : decode cL_act 225 = .ok (.bipush 15, 2) := by decide +kernel
theorem dL_act_227 : decode cL_act 227 = .ok (.ishr, 1) := by decide +kernel
theorem dL_act_228 : decode cL_act 228 = .ok (.iload_n 2, 1) := by decide +kernel
theorem dL_act_229 : decode cL_act 229 = .ok (.ifCond .eq 8, 3) := by decide +kernel
theorem dL_act_232 : decode cL_act 232 = .ok (.bipush 6, 2) := by decide +kernel
theorem dL_act_234 : decode cL_act 234 = .ok (.goto 4, 3) := by decide +kernel
theorem dL_act_237 : decode cL_act 237 = .ok (.iconst 4, 1) := by decide +kernel
theorem dL_act_238 : decode cL_act 238 = .ok (.invokestatic 42, 3) := by decide +kernel
theorem dL_act_241 : decode cL_act 241 = .ok (.invokestatic 54, 3) := by decide +kernel
theorem dL_act_244 : decode cL_act 244 = .ok (.ireturn, 1) := by decide +kernel
theorem dL_act_245 : decode cL_act 245 = .ok (.iload 8, 2) := by decide +kernel
theorem dL_act_247 : decode cL_act 247 = .ok (.bipush 18, 2) := by decide +kernel
theorem dL_act_249 : decode cL_act 249 = .ok (.if_icmp .ge 46, 3) := by decide +kernel
theorem dL_act_252 : decode cL_act 252 = .ok (.aload_n 0, 1) := by decide +kernel
theorem dL_act_253 : decode cL_act 253 = .ok (.iload 8, 2) := by decide +kernel
theorem dL_act_255 : decode cL_act 255 = .ok (.bipush 14, 2) := by decide +kernel
theorem dL_act_257 : decode cL_act 257 = .ok (.if_icmp .ne 7, 3) := by decide +kernel
theorem dL_act_260 : decode cL_act 260 = .ok (.iconst 1, 1) := by decide +kernel
theorem dL_act_261 : decode cL_act 261 = .ok (.goto 4, 3) := by decide +kernel
theorem dL_act_264 : decode cL_act 264 = .ok (.iconst 0, 1) := by decide +kernel
theorem dL_act_265 : decode cL_act 265 = .ok (.iload 7, 2) := by decide +kernel
theorem dL_act_267 : decode cL_act 267 = .ok (.iload_n 1, 1) := by decide +kernel
theorem dL_act_268 : decode cL_act 268 = .ok (.bipush 8, 2) := by decide +kernel
theorem dL_act_270 : decode cL_act 270 = .ok (.ishr, 1) := by decide +kernel
theorem dL_act_271 : decode cL_act 271 = .ok (.iload_n 2, 1) := by decide +kernel
theorem dL_act_272 : decode cL_act 272 = .ok (.ifCond .eq 8, 3) := by decide +kernel
theorem dL_act_275 : decode cL_act 275 = .ok (.bipush 20, 2) := by decide +kernel
theorem dL_act_277 : decode cL_act 277 = .ok (.goto 9, 3) := by decide +kernel
theorem dL_act_280 : decode cL_act 280 = .ok (.aload_n 0, 1) := by decide +kernel
theorem dL_act_281 : decode cL_act 281 = .ok (.invokevirtual 47, 3) := by decide +kernel
theorem dL_act_284 : decode cL_act 284 = .ok (.iconst 1, 1) := by decide +kernel
theorem dL_act_285 : decode cL_act 285 = .ok (.iadd, 1) := by decide +kernel
theorem dL_act_286 : decode cL_act 286 = .ok (.invokestatic 42, 3) := by decide +kernel
theorem dL_act_289 : decode cL_act 289 = .ok (.invokestatic 57, 3) := by decide +kernel
theorem dL_act_292 : decode cL_act 292 = .ok (.goto 21, 3) := by decide +kernel
theorem dL_act_295 : decode cL_act 295 = .ok (.iload 8, 2) := by decide +kernel
theorem dL_act_297 : decode cL_act 297 = .ok (.bipush 18, 2) := by decide +kernel
theorem dL_act_299 : decode cL_act 299 = .ok (.if_icmp .ne 10, 3) := by decide +kernel
theorem dL_act_302 : decode cL_act 302 = .ok (.aload_n 0, 1) := by decide +kernel
theorem dL_act_303 : decode cL_act 303 = .ok (.invokevirtual 60, 3) := by decide +kernel
theorem dL_act_306 : decode cL_act 306 = .ok (.goto 7, 3) := by decide +kernel
theorem dL_act_309 : decode cL_act 309 = .ok (.aload_n 0, 1) := by decide +kernel
theorem dL_act_310 : decode cL_act 310 = .ok (.invokevirtual 63, 3) := by decide +kernel
theorem dL_act_313 : decode cL_act 313 = .ok (.ireturn, 1) := by decide +kernel
set_option maxRecDepth 20000 in
theorem ggL_areAlike_X2_rules : GoodIn wsL_areAlike wsX2_rules := goodIn_r _ [5, 6, 7, 8, 9, 10, 11, 12, 129, 130, 131, 132, 133, 134, 135, 136] (by decide +kernel) (by decide +kernel)
set_option maxRecDepth 20000 in
theorem gL_areAlike_X2_rules : GoodIn wsL_areAlike (wsV RL 47 RX2 yX2_rules wsX2_rules) := goodIn_app (goodIn_of _ (by decide +kernel)) ggL_areAlike_X2_rules
set_option maxRecDepth 20000 in
theorem ggL_areAlike_X2_misses : GoodIn wsL_areAlike wsX2_misses := goodIn_r _ [16, 17, 129, 130, 131, 132, 133] (by decide +kernel) (by decide +kernel)
set_option maxRecDepth 20000 in
theorem gL_areAlike_X2_misses : GoodIn wsL_areAlike (wsV RL 66 RX2 yX2_misses wsX2_misses) := goodIn_app (goodIn_of _ (by decide +kernel)) ggL_areAlike_X2_misses
set_option maxRecDepth 20000 in
theorem ggL_areAlike_X2_averageLooks : GoodIn wsL_areAlike wsX2_averageLooks := goodIn_r _ [21, 22, 23, 129, 130, 131, 132, 133] (by decide +kernel) (by decide +kernel)
set_option maxRecDepth 20000 in
theorem gL_areAlike_X2_averageLooks : GoodIn wsL_areAlike (wsV RL 69 RX2 yX2_averageLooks wsX2_averageLooks) := goodIn_app (goodIn_of _ (by decide +kernel)) ggL_areAlike_X2_averageLooks
set_option maxRecDepth 20000 in
theorem ggL_areAlike_X2_permitted : GoodIn wsL_areAlike wsX2_permitted := goodIn_r _ [27, 28, 29, 30, 4, 31, 6, 32, 33, 34, 35, 7, 8, 9, 10, 11, 12, 36, 37, 38, 39, 40, 41, 42, 43, 44, 45, 46, 47, 48, 49, 50, 51, 52, 53, 54, 55, 56, 57, 58, 59, 60, 61, 62, 63, 64, 65, 66, 67, 68, 69, 70, 71, 72, 73, 74, 75, 129, 130, 131, 132, 133, 137, 138, 139, 140, 141, 142, 143, 144, 134, 135, 136] (by decide +kernel) (by decide +kernel)
set_option maxRecDepth 20000 in
theorem gL_areAlike_X2_permitted : GoodIn wsL_areAlike (wsV RL 73 RX2 yX2_permitted wsX2_permitted) := goodIn_app (goodIn_of _ (by decide +kernel)) ggL_areAlike_X2_permitted
set_option maxRecDepth 20000 in
theorem ggL_areAlike_X2_allEntries : GoodIn wsL_areAlike wsX2_allEntries := goodIn_r _ [79, 6, 32, 7, 8, 9, 10, 11, 12, 36, 37, 38, 39, 40, 41, 42, 43, 44, 45, 46, 47, 48, 49, 50, 51, 52, 80, 81, 4, 82, 83, 34, 33, 84, 85, 86, 87, 88, 89, 90, 91, 92, 93, 69, 70, 71, 72, 73, 74, 75, 129, 130, 131, 132, 133, 134, 135, 136, 137, 138, 139, 140, 141, 142, 143, 144] (by decide +kernel) (by decide +kernel)
set_option maxRecDepth 20000 in
theorem gL_areAlike_X2_allEntries : GoodIn wsL_areAlike (wsV RL 76 RX2 yX2_allEntries wsX2_allEntries) := goodIn_app (goodIn_of _ (by decide +kernel)) ggL_areAlike_X2_allEntries
set_option maxRecDepth 20000 in
theorem ggL_areAlike_X2_sources : GoodIn wsL_areAlike wsX2_sources := goodIn_ca (goodIn_r _ [97, 83, 98, 99, 100, 4, 101, 6, 32, 102, 103, 104, 105, 106, 107, 7, 8, 9, 10, 11, 12, 36, 37, 38, 39, 40, 41, 42, 43, 44, 45, 46, 47, 48, 49, 50, 51, 52, 108, 109, 110, 63, 111, 65, 66, 137, 138, 139, 140, 141, 129, 130, 131, 132, 133, 134, 135, 136, 142, 143, 144] (by decide +kernel) (by decide +kernel)) (goodIn_sub (fun _ h => List.mem_cons_of_mem _ (List.mem_append_right _ h)) (by decide +kernel))
set_option maxRecDepth 20000 in
theorem gL_areAlike_X2_sources : GoodIn wsL_areAlike (wsV RL 79 RX2 yX2_sources wsX2_sources) := goodIn_app (goodIn_of _ (by decide +kernel)) ggL_areAlike_X2_sources
set_option maxRecDepth 20000 in
theorem ggL_areAlike_X2_destinations : GoodIn wsL_areAlike wsX2_destinations := goodIn_ca (goodIn_r _ [115, 33, 98, 99, 100, 4, 101, 6, 32, 102, 103, 104, 105, 106, 107, 7, 8, 9, 10, 11, 12, 36, 37, 38, 39, 40, 41, 42, 43, 44, 45, 46, 47, 48, 49, 50, 51, 52, 108, 109, 110, 63, 111, 65, 66, 137, 138, 139, 140, 141, 129, 130, 131, 132, 133, 134, 135, 136, 142, 143, 144] (by decide +kernel) (by decide +kernel)) (goodIn_sub (fun _ h => List.mem_cons_of_mem _ (List.mem_append_right _ h)) (by decide +kernel))
set_option maxRecDepth 20000 in
theorem gL_areAlike_X2_destinations : GoodIn wsL_areAlike (wsV RL 82 RX2 yX2_destinations wsX2_destinations) := goodIn_app (goodIn_of _ (by decide +kernel)) ggL_areAlike_X2_destinations
set_option maxRecDepth 20000 in
theorem ggL_areAlike_X2_protocols : GoodIn wsL_areAlike wsX2_protocols := goodIn_ca (goodIn_r _ [119, 84, 98, 99, 100, 4, 101, 6, 32, 102, 103, 104, 105, 106, 107, 7, 8, 9, 10, 11, 12, 36, 37, 38, 39, 40, 41, 42, 43, 44, 45, 46, 47, 48, 49, 50, 51, 52, 137, 138, 139, 140, 141, 129, 130, 131, 132, 133, 134, 135, 136] (by decide +kernel) (by decide +kernel)) (goodIn_sub (fun _ h => List.mem_cons_of_mem _ (List.mem_append_right _ h)) (by decide +kernel))
set_option maxRecDepth 20000 in
theorem gL_areAlike_X2_protocols : GoodIn wsL_areAlike (wsV RL 85 RX2 yX2_protocols wsX2_protocols) := goodIn_app (goodIn_of _ (by decide +kernel)) ggL_areAlike_X2_protocols
set_option maxRecDepth 20000 in
theorem ggL_areAlike_X2_permits : GoodIn wsL_areAlike wsX2_permits := goodIn_ca (goodIn_r _ [123, 35, 98, 99, 100, 4, 101, 6, 32, 102, 103, 104, 105, 106, 107, 7, 8, 9, 10, 11, 12, 36, 37, 38, 39, 40, 41, 42, 43, 44, 45, 46, 47, 48, 49, 50, 51, 52, 137, 138, 139, 140, 141, 129, 130, 131, 132, 133, 134, 135, 136] (by decide +kernel) (by decide +kernel)) (goodIn_sub (fun _ h => List.mem_cons_of_mem _ (List.mem_append_right _ h)) (by decide +kernel))
set_option maxRecDepth 20000 in
theorem gL_areAlike_X2_permits : GoodIn wsL_areAlike (wsV RL 88 RX2 yX2_permits wsX2_permits) := goodIn_app (goodIn_of _ (by decide +kernel)) ggL_areAlike_X2_permits
set_option maxRecDepth 20000 in
theorem ggL_areAlike_X2_hits : GoodIn wsL_areAlike wsX2_hits := goodIn_ca (goodIn_r _ [127, 128, 98, 99, 100, 4, 101, 6, 32, 102, 103, 104, 105, 106, 107, 7, 8, 9, 10, 11, 12, 36, 37, 38, 39, 40, 41, 42, 43, 44, 45, 46, 47, 48, 49, 50, 51, 52, 137, 138, 139, 140, 141, 129, 130, 131, 132, 133, 134, 135, 136] (by decide +kernel) (by decide +kernel)) (goodIn_sub (fun _ h => List.mem_cons_of_mem _ (List.mem_append_right _ h)) (by decide +kernel))
set_option maxRecDepth 20000 in
theorem gL_areAlike_X2_hits : GoodIn wsL_areAlike (wsV RL 92 RX2 yX2_hits wsX2_hits) := goodIn_app (goodIn_of _ (by decide +kernel)) ggL_areAlike_X2_hits
theorem dL_areAlike_0 : decode cL_areAlike 0 = .ok (.aload_n 0, 1) := by decide +kernel
theorem dL_areAlike_1 : decode cL_areAlike 1 = .ok (.invokevirtual 47, 3) := by decide +kernel
theorem dL_areAlike_4 : decode cL_areAlike 4 = .ok (.aload_n 1, 1) := by decide +kernel
theorem dL_areAlike_5 : decode cL_areAlike 5 = .ok (.invokevirtual 47, 3) := by decide +kernel
theorem dL_areAlike_8 : decode cL_areAlike 8 = .ok (.if_icmp .ne 52, 3) := by decide +kernel
theorem dL_areAlike_11 : decode cL_areAlike 11 = .ok (.aload_n 0, 1) := by decide +kernel
theorem dL_areAlike_12 : decode cL_areAlike 12 = .ok (.invokevirtual 66, 3) := by decide +kernel
theorem dL_areAlike_15 : decode cL_areAlike 15 = .ok (.aload_n 1, 1) := by decide +kernel
theorem dL_areAlike_16 : decode cL_areAlike 16 = .ok (.invokevirtual 66, 3) := by decide +kernel
theorem dL_areAlike_19 : decode cL_areAlike 19 = .ok (.if_icmp .ne 41, 3) := by decide +kernel
theorem dL_areAlike_22 : decode cL_areAlike 22 = .ok (.aload_n 0, 1) := by decide +kernel
theorem dL_areAlike_23 : decode cL_areAlike 23 = .ok (.invokevirtual 69, 3) := by decide +kernel
theorem dL_areAlike_26 : decode cL_areAlike 26 = .ok (.aload_n 1, 1) := by decide +kernel
theorem dL_areAlike_27 : decode cL_areAlike 27 = .ok (.invokevirtual 69, 3) := by decide +kernel
theorem dL_areAlike_30 : decode cL_areAlike 30 = .ok (.fcmp .l, 1) := by decide +kernel
theorem dL_areAlike_31 : decode cL_areAlike 31 = .ok (.ifCond .ne 29, 3) := by decide +kernel
theorem dL_areAlike_34 : decode cL_areAlike 34 = .ok (.aload_n 0, 1) := by decide +kernel
theorem dL_areAlike_35 : decode cL_areAlike 35 = .ok (.invokevirtual 73, 3) := by decide +kernel
theorem dL_areAlike_38 : decode cL_areAlike 38 = .ok (.aload_n 1, 1) := by decide +kernel
theorem dL_areAlike_39 : decode cL_areAlike 39 = .ok (.invokevirtual 73, 3) := by decide +kernel
theorem dL_areAlike_42 : decode cL_areAlike 42 = .ok (.if_icmp .ne 18, 3) := by decide +kernel
theorem dL_areAlike_45 : decode cL_areAlike 45 = .ok (.aload_n 0, 1) := by decide +kernel
theorem dL_areAlike_46 : decode cL_areAlike 46 = .ok (.invokevirtual 76, 3) := by decide +kernel
theorem dL_areAlike_49 : decode cL_areAlike 49 = .ok (.aload_n 1, 1) := by decide +kernel
theorem dL_areAlike_50 : decode cL_areAlike 50 = .ok (.invokevirtual 76, 3) := by decide +kernel
theorem dL_areAlike_53 : decode cL_areAlike 53 = .ok (.if_icmp .ne 7, 3) := by decide +kernel
theorem dL_areAlike_56 : decode cL_areAlike 56 = .ok (.iconst 1, 1) := by decide +kernel
theorem dL_areAlike_57 : decode cL_areAlike 57 = .ok (.goto 4, 3) := by decide +kernel
theorem dL_areAlike_60 : decode cL_areAlike 60 = .ok (.iconst 0, 1) := by decide +kernel
theorem dL_areAlike_61 : decode cL_areAlike 61 = .ok (.istore_n 2, 1) := by decide +kernel
theorem dL_areAlike_62 : decode cL_areAlike 62 = .ok (.iconst 0, 1) := by decide +kernel
theorem dL_areAlike_63 : decode cL_areAlike 63 = .ok (.istore_n 3, 1) := by decide +kernel
theorem dL_areAlike_64 : decode cL_areAlike 64 = .ok (.iload_n 3, 1) := by decide +kernel
theorem dL_areAlike_65 : decode cL_areAlike 65 = .ok (.aload_n 0, 1) := by decide +kernel
theorem dL_areAlike_66 : decode cL_areAlike 66 = .ok (.invokevirtual 47, 3) := by decide +kernel
theorem dL_areAlike_69 : decode cL_areAlike 69 = .ok (.if_icmp .ge 84, 3) := by decide +kernel
theorem dL_areAlike_72 : decode cL_areAlike 72 = .ok (.iload_n 2, 1) := by decide +kernel
theorem dL_areAlike_73 : decode cL_areAlike 73 = .ok (.ifCond .eq 80, 3) := by decide +kernel
theorem dL_areAlike_76 : decode cL_areAlike 76 = .ok (.aload_n 0, 1) := by decide +kernel
theorem dL_areAlike_77 : decode cL_areAlike 77 = .ok (.iload_n 3, 1) := by decide +kernel
theorem dL_areAlike_78 : decode cL_areAlike 78 = .ok (.invokevirtual 79, 3) := by decide +kernel
theorem dL_areAlike_81 : decode cL_areAlike 81 = .ok (.aload_n 1, 1) := by decide +kernel
theorem dL_areAlike_82 : decode cL_areAlike 82 = .ok (.iload_n 3, 1) := by decide +kernel
theorem dL_areAlike_83 : decode cL_areAlike 83 = .ok (.invokevirtual 79, 3) := by decide +kernel
theorem dL_areAlike_86 : decode cL_areAlike 86 = .ok (.if_icmp .ne 59, 3) := by decide +kernel
theorem dL_areAlike_89 : decode cL_areAlike 89 = .ok (.aload_n 0, 1) := by decide +kernel
theorem dL_areAlike_90 : decode cL_areAlike 90 = .ok (.iload_n 3, 1) := by decide +kernel
theorem dL_areAlike_91 : decode cL_areAlike 91 = .ok (.invokevirtual 82, 3) := by decide +kernel
theorem dL_areAlike_94 : decode cL_areAlike 94 = .ok (.aload_n 1, 1) := by decide +kernel
theorem dL_areAlike_95 : decode cL_areAlike 95 = .ok (.iload_n 3, 1) := by decide +kernel
theorem dL_areAlike_96 : decode cL_areAlike 96 = .ok (.invokevirtual 82, 3) := by decide +kernel
theorem dL_areAlike_99 : decode cL_areAlike 99 = .ok (.if_icmp .ne 46, 3) := by decide +kernel
theorem dL_areAlike_102 : decode cL_areAlike 102 = .ok (.aload_n 0, 1) := by decide +kernel
theorem dL_areAlike_103 : decode cL_areAlike 103 = .ok (.iload_n 3, 1) := by decide +kernel
theorem dL_areAlike_104 : decode cL_areAlike 104 = .ok (.invokevirtual 85, 3) := by decide +kernel
theorem dL_areAlike_107 : decode cL_areAlike 107 = .ok (.aload_n 1, 1) := by decide +kernel
theorem dL_areAlike_108 : decode cL_areAlike 108 = .ok (.iload_n 3, 1) := by decide +kernel
theorem dL_areAlike_109 : decode cL_areAlike 109 = .ok (.invokevirtual 85, 3) := by decide +kernel
theorem dL_areAlike_112 : decode cL_areAlike 112 = .ok (.if_icmp .ne 33, 3) := by decide +kernel
theorem dL_areAlike_115 : decode cL_areAlike 115 = .ok (.aload_n 0, 1) := by decide +kernel
theorem dL_areAlike_116 : decode cL_areAlike 116 = .ok (.iload_n 3, 1) := by decide +kernel
theorem dL_areAlike_117 : decode cL_areAlike 117 = .ok (.invokevirtual 88, 3) := by decide +kernel
theorem dL_areAlike_120 : decode cL_areAlike 120 = .ok (.aload_n 1, 1) := by decide +kernel
theorem dL_areAlike_121 : decode cL_areAlike 121 = .ok (.iload_n 3, 1) := by decide +kernel
theorem dL_areAlike_122 : decode cL_areAlike 122 = .ok (.invokevirtual 88, 3) := by decide +kernel
theorem dL_areAlike_125 : decode cL_areAlike 125 = .ok (.if_icmp .ne 20, 3) := by decide +kernel
theorem dL_areAlike_128 : decode cL_areAlike 128 = .ok (.aload_n 0, 1) := by decide +kernel
theorem dL_areAlike_129 : decode cL_areAlike 129 = .ok (.iload_n 3, 1) := by decide +kernel
theorem dL_areAlike_130 : decode cL_areAlike 130 = .ok (.invokevirtual 92, 3) := by decide +kernel
theorem dL_areAlike_133 : decode cL_areAlike 133 = .ok (.aload_n 1, 1) := by decide +kernel
theorem dL_areAlike_134 : decode cL_areAlike 134 = .ok (.iload_n 3, 1) := by decide +kernel
theorem dL_areAlike_135 : decode cL_areAlike 135 = .ok (.invokevirtual 92, 3) := by decide +kernel
theorem dL_areAlike_138 : decode cL_areAlike 138 = .ok (.if_icmp .ne 7, 3) := by decide +kernel
theorem dL_areAlike_141 : decode cL_areAlike 141 = .ok (.iconst 1, 1) := by decide +kernel
theorem dL_areAlike_142 : decode cL_areAlike 142 = .ok (.goto 4, 3) := by decide +kernel
theorem dL_areAlike_145 : decode cL_areAlike 145 = .ok (.iconst 0, 1) := by decide +kernel
theorem dL_areAlike_146 : decode cL_areAlike 146 = .ok (.istore_n 2, 1) := by decide +kernel
theorem dL_areAlike_147 : decode cL_areAlike 147 = .ok (.iinc 3 1, 3) := by decide +kernel
theorem dL_areAlike_150 : decode cL_areAlike 150 = .ok (.goto (-86), 3) := by decide +kernel
theorem dL_areAlike_153 : decode cL_areAlike 153 = .ok (.iload_n 2, 1) := by decide +kernel
theorem dL_areAlike_154 : decode cL_areAlike 154 = .ok (.ireturn, 1) := by decide +kernel
theorem dL_many_0 : decode cL_many 0 = .ok (.iconst 0, 1) := by decide +kernel
theorem dL_many_1 : decode cL_many 1 = .ok (.istore_n 1, 1) := by decide +kernel
theorem dL_many_2 : decode cL_many 2 = .ok (.iconst 0, 1) := by decide +kernel
theorem dL_many_3 : decode cL_many 3 = .ok (.istore_n 2, 1) := by decide +kernel
theorem dL_many_4 : decode cL_many 4 = .ok (.iload_n 2, 1) := by decide +kernel
theorem dL_many_5 : decode cL_many 5 = .ok (.iconst 4, 1) := by decide +kernel
theorem dL_many_6 : decode cL_many 6 = .ok (.if_icmp .ge 17, 3) := by decide +kernel
theorem dL_many_9 : decode cL_many 9 = .ok (.iload_n 1, 1) := by decide +kernel
theorem dL_many_10 : decode cL_many 10 = .ok (.iload_n 0, 1) := by decide +kernel
theorem dL_many_11 : decode cL_many 11 = .ok (.iload_n 2, 1) := by decide +kernel
theorem dL_many_12 : decode cL_many 12 = .ok (.ishr, 1) := by decide +kernel
theorem dL_many_13 : decode cL_many 13 = .ok (.iconst 1, 1) := by decide +kernel
theorem dL_many_14 : decode cL_many 14 = .ok (.iand, 1) := by decide +kernel
theorem dL_many_15 : decode cL_many 15 = .ok (.iadd, 1) := by decide +kernel
theorem dL_many_16 : decode cL_many 16 = .ok (.istore_n 1, 1) := by decide +kernel
theorem dL_many_17 : decode cL_many 17 = .ok (.iinc 2 1, 3) := by decide +kernel
theorem dL_many_20 : decode cL_many 20 = .ok (.goto (-16), 3) := by decide +kernel
theorem dL_many_23 : decode cL_many 23 = .ok (.iload_n 1, 1) := by decide +kernel
theorem dL_many_24 : decode cL_many 24 = .ok (.ireturn, 1) := by decide +kernel
set_option maxRecDepth 20000 in
theorem ggL_size_X2_sources : GoodIn wsL_size wsX2_sources := goodIn_ca (goodIn_r _ [5, 6, 7, 8, 9, 4, 10, 11, 12, 13, 14, 15, 16, 17, 18, 19, 20, 21, 22, 23, 24, 25, 26, 27, 28, 29, 30, 31, 32, 33, 34, 35, 36, 37, 38, 39, 40, 41, 42, 43, 44, 45, 46, 47, 48, 63, 64, 65, 66, 67, 68, 69, 70, 71, 72, 73, 74, 75, 76, 77, 78] (by decide +kernel) (by decide +kernel)) (goodIn_sub (fun _ h => List.mem_cons_of_mem _ (List.mem_append_right _ h)) (by decide +kernel))
set_option maxRecDepth 20000 in
theorem gL_size_X2_sources : GoodIn wsL_size (wsV RL 79 RX2 yX2_sources wsX2_sources) := goodIn_app (goodIn_of _ (by decide +kernel)) ggL_size_X2_sources
set_option maxRecDepth 20000 in
theorem ggL_size_X2_destinations : GoodIn wsL_size wsX2_destinations := goodIn_ca (goodIn_r _ [52, 53, 7, 8, 9, 4, 10, 11, 12, 13, 14, 15, 16, 17, 18, 19, 20, 21, 22, 23, 24, 25, 26, 27, 28, 29, 30, 31, 32, 33, 34, 35, 36, 37, 38, 39, 40, 41, 42, 43, 44, 45, 46, 47, 48, 63, 64, 65, 66, 67, 68, 69, 70, 71, 72, 73, 74, 75, 76, 77, 78] (by decide +kernel) (by decide +kernel)) (goodIn_sub (fun _ h => List.mem_cons_of_mem _ (List.mem_append_right _ h)) (by decide +kernel))
set_option maxRecDepth 20000 in
theorem gL_size_X2_destinations : GoodIn wsL_size (wsV RL 82 RX2 yX2_destinations wsX2_destinations) := goodIn_app (goodIn_of _ (by decide +kernel)) ggL_size_X2_destinations
set_option maxRecDepth 20000 in
theorem ggL_size_X2_protocols : GoodIn wsL_size wsX2_protocols := goodIn_ca (goodIn_r _ [57, 58, 7, 8, 9, 4, 10, 11, 12, 13, 14, 15, 16, 17, 18, 19, 20, 21, 22, 23, 24, 25, 26, 27, 28, 29, 30, 31, 32, 33, 34, 35, 36, 37, 38, 39, 40, 41, 63, 64, 65, 66, 67, 68, 69, 70, 71, 72, 73, 74, 75] (by decide +kernel) (by decide +kernel)) (goodIn_sub (fun _ h => List.mem_cons_of_mem _ (List.mem_append_right _ h)) (by decide +kernel))
set_option maxRecDepth 20000 in
theorem gL_size_X2_protocols : GoodIn wsL_size (wsV RL 85 RX2 yX2_protocols wsX2_protocols) := goodIn_app (goodIn_of _ (by decide +kernel)) ggL_size_X2_protocols
set_option maxRecDepth 20000 in
theorem ggL_size_L_many : GoodIn wsL_size wsL_many := goodIn_r _ [62] (by decide +kernel) (by decide +kernel)
set_option maxRecDepth 20000 in
theorem gL_size_L_many : GoodIn wsL_size (va_wsS RL 95 yL_many wsL_many) := goodIn_app (goodIn_of _ (by decide +kernel)) ggL_size_L_many
theorem dL_size_0 : decode cL_size 0 = .ok (.aload_n 0, 1) := by decide +kernel
theorem dL_size_1 : decode cL_size 1 = .ok (.iload_n 1, 1) := by decide +kernel
theorem dL_size_2 : decode cL_size 2 = .ok (.invokevirtual 79, 3) := by decide +kernel
theorem dL_size_5 : decode cL_size 5 = .ok (.bipush 100, 2) := by decide +kernel
theorem dL_size_7 : decode cL_size 7 = .ok (.irem, 1) := by decide +kernel
theorem dL_size_8 : decode cL_size 8 = .ok (.aload_n 0, 1) := by decide +kernel
theorem dL_size_9 : decode cL_size 9 = .ok (.iload_n 1, 1) := by decide +kernel
theorem dL_size_10 : decode cL_size 10 = .ok (.invokevirtual 79, 3) := by decide +kernel
theorem dL_size_13 : decode cL_size 13 = .ok (.bipush 100, 2) := by decide +kernel
theorem dL_size_15 : decode cL_size 15 = .ok (.idiv, 1) := by decide +kernel
theorem dL_size_16 : decode cL_size 16 = .ok (.isub, 1) := by decide +kernel
theorem dL_size_17 : decode cL_size 17 = .ok (.iconst 1, 1) := by decide +kernel
theorem dL_size_18 : decode cL_size 18 = .ok (.iadd, 1) := by decide +kernel
theorem dL_size_19 : decode cL_size 19 = .ok (.aload_n 0, 1) := by decide +kernel
theorem dL_size_20 : decode cL_size 20 = .ok (.iload_n 1, 1) := by decide +kernel
theorem dL_size_21 : decode cL_size 21 = .ok (.invokevirtual 82, 3) := by decide +kernel
theorem dL_size_24 : decode cL_size 24 = .ok (.bipush 100, 2) := by decide +kernel
theorem dL_size_26 : decode cL_size 26 = .ok (.irem, 1) := by decide +kernel
theorem dL_size_27 : decode cL_size 27 = .ok (.aload_n 0, 1) := by decide +kernel
theorem dL_size_28 : decode cL_size 28 = .ok (.iload_n 1, 1) := by decide +kernel
theorem dL_size_29 : decode cL_size 29 = .ok (.invokevirtual 82, 3) := by decide +kernel
theorem dL_size_32 : decode cL_size 32 = .ok (.bipush 100, 2) := by decide +kernel
theorem dL_size_34 : decode cL_size 34 = .ok (.idiv, 1) := by decide +kernel
theorem dL_size_35 : decode cL_size 35 = .ok (.isub, 1) := by decide +kernel
theorem dL_size_36 : decode cL_size 36 = .ok (.iconst 1, 1) := by decide +kernel
theorem dL_size_37 : decode cL_size 37 = .ok (.iadd, 1) := by decide +kernel
theorem dL_size_38 : decode cL_size 38 = .ok (.imul, 1) := by decide +kernel
theorem dL_size_39 : decode cL_size 39 = .ok (.aload_n 0, 1) := by decide +kernel
theorem dL_size_40 : decode cL_size 40 = .ok (.iload_n 1, 1) := by decide +kernel
theorem dL_size_41 : decode cL_size 41 = .ok (.invokevirtual 85, 3) := by decide +kernel
theorem dL_size_44 : decode cL_size 44 = .ok (.invokestatic 95, 3) := by decide +kernel
theorem dL_size_47 : decode cL_size 47 = .ok (.imul, 1) := by decide +kernel
theorem dL_size_48 : decode cL_size 48 = .ok (.ireturn, 1) := by decide +kernel
set_option maxRecDepth 20000 in
theorem ggL_areRulesSo_X2_rules : GoodIn wsL_areRulesSo wsX2_rules := goodIn_r _ [6, 7, 8, 9, 10, 11, 12, 13, 201, 202, 203, 204, 205, 206, 207, 208] (by decide +kernel) (by decide +kernel)
set_option maxRecDepth 20000 in
theorem gL_areRulesSo_X2_rules : GoodIn wsL_areRulesSo (wsV RL 47 RX2 yX2_rules wsX2_rules) := goodIn_app (goodIn_of _ (by decide +kernel)) ggL_areRulesSo_X2_rules
set_option maxRecDepth 20000 in
theorem ggL_areRulesSo_X2_decides : GoodIn wsL_areRulesSo wsX2_decides := goodIn_ca (goodIn_r _ [17, 18, 19, 20, 5, 21, 7, 22, 23, 24, 25, 26, 27, 28, 8, 9, 10, 11, 12, 13, 29, 30, 31, 32, 33, 34, 35, 36, 37, 38, 39, 40, 41, 42, 43, 44, 45, 46, 47, 48, 49, 50, 51, 52, 53, 54, 55, 56, 57, 58, 59, 60, 61, 62, 63, 64, 65, 66, 67, 68, 69, 70, 71, 72, 73, 74, 75, 76, 77, 78, 79, 80, 81, 82, 83, 201, 202, 203, 204, 205, 206, 207, 208, 209, 210, 211, 212, 213, 214, 215, 216] (by decide +kernel) (by decide +kernel)) (goodIn_sub (fun _ h => List.mem_cons_of_mem _ (List.mem_append_left _ (List.mem_append_right _ h))) (by decide +kernel))
set_option maxRecDepth 20000 in
theorem gL_areRulesSo_X2_decides : GoodIn wsL_areRulesSo (wsV RL 98 RX2 yX2_decides wsX2_decides) := goodIn_app (goodIn_of _ (by decide +kernel)) ggL_areRulesSo_X2_decides
set_option maxRecDepth 20000 in
theorem ggL_areRulesSo_L_low : GoodIn wsL_areRulesSo wsL_low := goodIn_r _ [87, 88] (by decide +kernel) (by decide +kernel)
set_option maxRecDepth 20000 in
theorem gL_areRulesSo_L_low : GoodIn wsL_areRulesSo (va_wsS RL 42 yL_low wsL_low) := goodIn_app (goodIn_of _ (by decide +kernel)) ggL_areRulesSo_L_low
set_option maxRecDepth 20000 in
theorem ggL_areRulesSo_X2_overlap : GoodIn wsL_areRulesSo wsX2_overlap := goodIn_ca (goodIn_r _ [92, 18, 19, 20, 5, 21, 7, 22, 23, 24, 25, 26, 27, 28, 8, 9, 10, 11, 12, 13, 29, 30, 31, 32, 33, 34, 35, 36, 37, 38, 39, 40, 41, 42, 43, 44, 45, 93, 94, 95, 66, 96, 68, 97, 69, 98, 99, 100, 73, 101, 76, 102, 103, 104, 105, 75, 106, 107, 108, 109, 78, 79, 80, 81, 82, 83, 201, 202, 203, 204, 205, 206, 207, 208, 209, 210, 211, 212, 213, 214, 215, 216] (by decide +kernel) (by decide +kernel)) (goodIn_sub (fun _ h => List.mem_cons_of_mem _ (List.mem_append_left _ (List.mem_append_right _ h))) (by decide +kernel))
set_option maxRecDepth 20000 in
theorem gL_areRulesSo_X2_overlap : GoodIn wsL_areRulesSo (wsV RL 101 RX2 yX2_overlap wsX2_overlap) := goodIn_app (goodIn_of _ (by decide +kernel)) ggL_areRulesSo_X2_overlap
set_option maxRecDepth 20000 in
theorem ggL_areRulesSo_L_shadowedBy : GoodIn wsL_areRulesSo wsL_shadowedBy := goodIn_ca (goodIn_ca (goodIn_r _ [112, 113, 114, 115, 116, 5, 117, 118, 119, 7, 22, 18, 19, 20, 21, 23, 24, 25, 26, 27, 28, 8, 9, 10, 11, 12, 13, 29, 30, 31, 32, 33, 34, 35, 36, 37, 38, 39, 40, 41, 42, 43, 44, 45, 120, 121, 122, 66, 123, 68, 97, 69, 124, 125, 126, 73, 127, 75, 76, 201, 202, 203, 204, 205, 206, 207, 208, 209, 210, 211, 212, 213, 214, 215, 216] (by decide +kernel) (by decide +kernel)) (goodIn_sub (fun _ h => List.mem_cons_of_mem _ (List.mem_append_right _ h)) (by decide +kernel))) (goodIn_sub (fun _ h => List.mem_cons_of_mem _ (List.mem_append_left _ (List.mem_append_right _ h))) (by decide +kernel))
set_option maxRecDepth 20000 in
theorem gL_areRulesSo_L_shadowedBy : GoodIn wsL_areRulesSo (va_wsS RL 104 yL_shadowedBy wsL_shadowedBy) := goodIn_app (goodIn_of _ (by decide +kernel)) ggL_areRulesSo_L_shadowedBy
set_option maxRecDepth 20000 in
theorem ggL_areRulesSo_X2_permits : GoodIn wsL_areRulesSo wsX2_permits := goodIn_ca (goodIn_r _ [131, 132, 18, 19, 20, 5, 21, 7, 22, 23, 24, 25, 26, 27, 28, 8, 9, 10, 11, 12, 13, 29, 30, 31, 32, 33, 34, 35, 36, 37, 38, 39, 40, 41, 42, 43, 44, 45, 209, 210, 211, 212, 213, 201, 202, 203, 204, 205, 206, 207, 208] (by decide +kernel) (by decide +kernel)) (goodIn_sub (fun _ h => List.mem_cons_of_mem _ (List.mem_append_left _ (List.mem_append_right _ h))) (by decide +kernel))
set_option maxRecDepth 20000 in
theorem gL_areRulesSo_X2_permits : GoodIn wsL_areRulesSo (wsV RL 88 RX2 yX2_permits wsX2_permits) := goodIn_app (goodIn_of _ (by decide +kernel)) ggL_areRulesSo_X2_permits
set_option maxRecDepth 20000 in
theorem ggL_areRulesSo_X2_entries : GoodIn wsL_areRulesSo wsX2_entries := goodIn_ca (goodIn_r _ [136, 18, 19, 20, 5, 21, 7, 22, 23, 24, 25, 26, 27, 28, 8, 9, 10, 11, 12, 13, 29, 30, 31, 32, 33, 34, 35, 36, 37, 38, 39, 40, 41, 42, 43, 44, 45, 137, 138, 139, 50, 55, 54, 53, 140, 141, 142, 143, 144, 145, 146, 147, 148, 77, 78, 79, 80, 81, 82, 83, 201, 202, 203, 204, 205, 206, 207, 208, 209, 210, 211, 212, 213, 214, 215, 216] (by decide +kernel) (by decide +kernel)) (goodIn_sub (fun _ h => List.mem_cons_of_mem _ (List.mem_append_left _ (List.mem_append_right _ h))) (by decide +kernel))
set_option maxRecDepth 20000 in
theorem gL_areRulesSo_X2_entries : GoodIn wsL_areRulesSo (wsV RL 107 RX2 yX2_entries wsX2_entries) := goodIn_app (goodIn_of _ (by decide +kernel)) ggL_areRulesSo_X2_entries
set_option maxRecDepth 20000 in
theorem ggL_areRulesSo_L_size : GoodIn wsL_areRulesSo wsL_size := goodIn_ca (goodIn_r _ [151, 152, 153, 154, 5, 155, 50, 18, 19, 20, 21, 7, 22, 23, 24, 25, 26, 27, 28, 8, 9, 10, 11, 12, 13, 29, 30, 31, 32, 33, 34, 35, 36, 37, 38, 39, 40, 41, 42, 43, 44, 45, 156, 157, 158, 73, 159, 75, 76, 160, 161, 162, 163, 54, 164, 165, 166, 167, 53, 168, 169, 86, 170, 209, 210, 211, 212, 213, 201, 202, 203, 204, 205, 206, 207, 208, 214, 215, 216] (by decide +kernel) (by decide +kernel)) (goodIn_sub (fun _ h => List.mem_cons_of_mem _ (List.mem_append_left _ (List.mem_append_right _ h))) (by decide +kernel))
set_option maxRecDepth 20000 in
theorem gL_areRulesSo_L_size : GoodIn wsL_areRulesSo (va_wsS RL 110 yL_size wsL_size) := goodIn_app (goodIn_of _ (by decide +kernel)) ggL_areRulesSo_L_size
set_option maxRecDepth 20000 in
theorem ggL_areRulesSo_X2_isShadowed : GoodIn wsL_areRulesSo wsX2_isShadowed := goodIn_ca (goodIn_r _ [174, 18, 19, 20, 5, 21, 7, 22, 23, 24, 25, 26, 27, 28, 8, 9, 10, 11, 12, 13, 29, 30, 31, 32, 33, 34, 35, 36, 37, 38, 39, 40, 41, 42, 43, 44, 45, 46, 47, 48, 49, 50, 51, 52, 53, 54, 55, 56, 57, 58, 59, 60, 61, 62, 63, 64, 65, 66, 67, 68, 69, 70, 71, 72, 73, 74, 75, 76, 77, 78, 79, 80, 81, 82, 83, 201, 202, 203, 204, 205, 206, 207, 208, 209, 210, 211, 212, 213, 214, 215, 216] (by decide +kernel) (by decide +kernel)) (goodIn_sub (fun _ h => List.mem_cons_of_mem _ (List.mem_append_left _ (List.mem_append_right _ h))) (by decide +kernel))
set_option maxRecDepth 20000 in
theorem gL_areRulesSo_X2_isShadowed : GoodIn wsL_areRulesSo (wsV RL 113 RX2 yX2_isShadowed wsX2_isShadowed) := goodIn_app (goodIn_of _ (by decide +kernel)) ggL_areRulesSo_X2_isShadowed
set_option maxRecDepth 20000 in
theorem ggL_areRulesSo_X2_isRedundant : GoodIn wsL_areRulesSo wsX2_isRedundant := goodIn_ca (goodIn_r _ [178, 18, 19, 20, 5, 21, 7, 22, 23, 24, 25, 26, 27, 28, 8, 9, 10, 11, 12, 13, 29, 30, 31, 32, 33, 34, 35, 36, 37, 38, 39, 40, 41, 42, 43, 44, 45, 179, 180, 181, 182, 50, 51, 52, 53, 56, 57, 58, 183, 184, 185, 186, 54, 55, 132, 63, 64, 65, 66, 67, 68, 69, 70, 71, 72, 73, 74, 75, 76, 201, 202, 203, 204, 205, 206, 207, 208, 209, 210, 211, 212, 213, 214, 215, 216] (by decide +kernel) (by decide +kernel)) (goodIn_sub (fun _ h => List.mem_cons_of_mem _ (List.mem_append_left _ (List.mem_append_right _ h))) (by decide +kernel))
set_option maxRecDepth 20000 in
theorem gL_areRulesSo_X2_isRedundant : GoodIn wsL_areRulesSo (wsV RL 116 RX2 yX2_isRedundant wsX2_isRedundant) := goodIn_app (goodIn_of _ (by decide +kernel)) ggL_areRulesSo_X2_isRedundant
set_option maxRecDepth 20000 in
theorem ggL_areRulesSo_X2_permitted : GoodIn wsL_areRulesSo wsX2_permitted := goodIn_r _ [190, 183, 184, 185, 5, 186, 7, 22, 54, 55, 132, 8, 9, 10, 11, 12, 13, 29, 30, 31, 32, 33, 34, 35, 36, 37, 38, 39, 40, 41, 42, 43, 44, 45, 63, 64, 65, 66, 67, 68, 69, 70, 71, 72, 73, 74, 75, 76, 57, 58, 77, 78, 79, 80, 81, 82, 83, 201, 202, 203, 204, 205, 209, 210, 211, 212, 213, 214, 215, 216, 206, 207, 208] (by decide +kernel) (by decide +kernel)
set_option maxRecDepth 20000 in
theorem gL_areRulesSo_X2_permitted : GoodIn wsL_areRulesSo (wsV RL 73 RX2 yX2_permitted wsX2_permitted) := goodIn_app (goodIn_of _ (by decide +kernel)) ggL_areRulesSo_X2_permitted
set_option maxRecDepth 20000 in
theorem ggL_areRulesSo_X2_allEntries : GoodIn wsL_areRulesSo wsX2_allEntries := goodIn_r _ [194, 7, 22, 8, 9, 10, 11, 12, 13, 29, 30, 31, 32, 33, 34, 35, 36, 37, 38, 39, 40, 41, 42, 43, 44, 45, 137, 138, 5, 139, 50, 55, 54, 53, 140, 141, 142, 143, 144, 145, 146, 147, 148, 77, 78, 79, 80, 81, 82, 83, 201, 202, 203, 204, 205, 206, 207, 208, 209, 210, 211, 212, 213, 214, 215, 216] (by decide +kernel) (by decide +kernel)
set_option maxRecDepth 20000 in
theorem gL_areRulesSo_X2_allEntries : GoodIn wsL_areRulesSo (wsV RL 76 RX2 yX2_allEntries wsX2_allEntries) := goodIn_app (goodIn_of _ (by decide +kernel)) ggL_areRulesSo_X2_allEntries
set_option maxRecDepth 20000 in
theorem ggL_areRulesSo_X2_averageLooks : GoodIn wsL_areRulesSo wsX2_averageLooks := goodIn_r _ [198, 199, 200, 201, 202, 203, 204, 205] (by decide +kernel) (by decide +kernel)
set_option maxRecDepth 20000 in
theorem gL_areRulesSo_X2_averageLooks : GoodIn wsL_areRulesSo (wsV RL 69 RX2 yX2_averageLooks wsX2_averageLooks) := goodIn_app (goodIn_of _ (by decide +kernel)) ggL_areRulesSo_X2_averageLooks
theorem dL_areRulesSo_0 : decode cL_areRulesSo 0 = .ok (.iconst 0, 1) := by decide +kernel
theorem dL_areRulesSo_1 : decode cL_areRulesSo 1 = .ok (.istore_n 2, 1) := by decide +kernel
theorem dL_areRulesSo_2 : decode cL_areRulesSo 2 = .ok (.iconst 0, 1) := by decide +kernel
theorem dL_areRulesSo_3 : decode cL_areRulesSo 3 = .ok (.istore_n 3, 1) := by decide +kernel
theorem dL_areRulesSo_4 : decode cL_areRulesSo 4 = .ok (.iconst 0, 1) := by decide +kernel
theorem dL_areRulesSo_5 : decode cL_areRulesSo 5 = .ok (.istore 4, 2) := by decide +kernel
theorem dL_areRulesSo_7 : decode cL_areRulesSo 7 = .ok (.iconst 1, 1) := by decide +kernel
theorem dL_areRulesSo_8 : decode cL_areRulesSo 8 = .ok (.istore 5, 2) := by decide +kernel
theorem dL_areRulesSo_10 : decode cL_areRulesSo 10 = .ok (.iconst 0, 1) := by decide +kernel
theorem dL_areRulesSo_11 : decode cL_areRulesSo 11 = .ok (.istore 6, 2) := by decide +kernel
theorem dL_areRulesSo_13 : decode cL_areRulesSo 13 = .ok (.iload 6, 2) := by decide +kernel
theorem dL_areRulesSo_15 : decode cL_areRulesSo 15 = .ok (.aload_n 0, 1) := by decide +kernel
theorem dL_areRulesSo_16 : decode cL_areRulesSo 16 = .ok (.invokevirtual 47, 3) := by decide +kernel
theorem dL_areRulesSo_19 : decode cL_areRulesSo 19 = .ok (.if_icmp .ge 267, 3) := by decide +kernel
theorem dL_areRulesSo_22 : decode cL_areRulesSo 22 = .ok (.iload 5, 2) := by decide +kernel
theorem dL_areRulesSo_24 : decode cL_areRulesSo 24 = .ok (.ifCond .eq 262, 3) := by decide +kernel
theorem dL_areRulesSo_27 : decode cL_areRulesSo 27 = .ok (.aload_n 0, 1) := by decide +kernel
theorem dL_areRulesSo_28 : decode cL_areRulesSo 28 = .ok (.iload 6, 2) := by decide +kernel
theorem dL_areRulesSo_30 : decode cL_areRulesSo 30 = .ok (.invokevirtual 98, 3) := by decide +kernel
theorem dL_areRulesSo_33 : decode cL_areRulesSo 33 = .ok (.istore 7, 2) := by decide +kernel
theorem dL_areRulesSo_35 : decode cL_areRulesSo 35 = .ok (.iload_n 1, 1) := by decide +kernel
theorem dL_areRulesSo_36 : decode cL_areRulesSo 36 = .ok (.iload 6, 2) := by decide +kernel
theorem dL_areRulesSo_38 : decode cL_areRulesSo 38 = .ok (.ishr, 1) := by decide +kernel
theorem dL_areRulesSo_39 : decode cL_areRulesSo 39 = .ok (.aload_n 0, 1) := by decide +kernel
theorem dL_areRulesSo_40 : decode cL_areRulesSo 40 = .ok (.invokevirtual 47, 3) := by decide +kernel
theorem dL_areRulesSo_43 : decode cL_areRulesSo 43 = .ok (.invokestatic 42, 3) := by decide +kernel
theorem dL_areRulesSo_46 : decode cL_areRulesSo 46 = .ok (.istore 8, 2) := by decide +kernel
theorem dL_areRulesSo_48 : decode cL_areRulesSo 48 = .ok (.aload_n 0, 1) := by decide +kernel
theorem dL_areRulesSo_49 : decode cL_areRulesSo 49 = .ok (.iload 6, 2) := by decide +kernel
theorem dL_areRulesSo_51 : decode cL_areRulesSo 51 = .ok (.iload 8, 2) := by decide +kernel
theorem dL_areRulesSo_53 : decode cL_areRulesSo 53 = .ok (.invokevirtual 101, 3) := by decide +kernel
theorem dL_areRulesSo_56 : decode cL_areRulesSo 56 = .ok (.istore 9, 2) := by decide +kernel
theorem dL_areRulesSo_58 : decode cL_areRulesSo 58 = .ok (.aload_n 0, 1) := by decide +kernel
theorem dL_areRulesSo_59 : decode cL_areRulesSo 59 = .ok (.iload 6, 2) := by decide +kernel
theorem dL_areRulesSo_61 : decode cL_areRulesSo 61 = .ok (.invokestatic 104, 3) := by decide +kernel
theorem dL_areRulesSo_64 : decode cL_areRulesSo 64 = .ok (.istore 10, 2) := by decide +kernel
theorem dL_areRulesSo_66 : decode cL_areRulesSo 66 = .ok (.iload_n 2, 1) := by decide +kernel
theorem dL_areRulesSo_67 : decode cL_areRulesSo 67 = .ok (.iload 7, 2) := by decide +kernel
theorem dL_areRulesSo_69 : decode cL_areRulesSo 69 = .ok (.iadd, 1) := by decide +kernel
theorem dL_areRulesSo_70 : decode cL_areRulesSo 70 = .ok (.istore_n 2, 1) := by decide +kernel
theorem dL_areRulesSo_71 : decode cL_areRulesSo 71 = .ok (.iload_n 3, 1) := by decide +kernel
theorem dL_areRulesSo_72 : decode cL_areRulesSo 72 = .ok (.aload_n 0, 1) := by decide +kernel
theorem dL_areRulesSo_73 : decode cL_areRulesSo 73 = .ok (.iload 6, 2) := by decide +kernel
theorem dL_areRulesSo_75 : decode cL_areRulesSo 75 = .ok (.invokevirtual 88, 3) := by decide +kernel
theorem dL_areRulesSo_78 : decode cL_areRulesSo 78 = .ok (.ifCond .eq 8, 3) := by decide +kernel
theorem dL_areRulesSo_81 : decode cL_areRulesSo 81 = .ok (.iload 7, 2) := by decide +kernel
theorem dL_areRulesSo_83 : decode cL_areRulesSo 83 = .ok (.goto 4, 3) := by decide +kernel
theorem dL_areRulesSo_86 : decode cL_areRulesSo 86 = .ok (.iconst 0, 1) := by decide +kernel
theorem dL_areRulesSo_87 : decode cL_areRulesSo 87 = .ok (.iadd, 1) := by decide +kernel
theorem dL_areRulesSo_88 : decode cL_areRulesSo 88 = .ok (.istore_n 3, 1) := by decide +kernel
theorem dL_areRulesSo_89 : decode cL_areRulesSo 89 = .ok (.iload 4, 2) := by decide +kernel
theorem dL_areRulesSo_91 : decode cL_areRulesSo 91 = .ok (.aload_n 0, 1) := by decide +kernel
theorem dL_areRulesSo_92 : decode cL_areRulesSo 92 = .ok (.iload 6, 2) := by decide +kernel
theorem dL_areRulesSo_94 : decode cL_areRulesSo 94 = .ok (.invokevirtual 107, 3) := by decide +kernel
theorem dL_areRulesSo_97 : decode cL_areRulesSo 97 = .ok (.iadd, 1) := by decide +kernel
theorem dL_areRulesSo_98 : decode cL_areRulesSo 98 = .ok (.istore 4, 2) := by decide +kernel
theorem dL_areRulesSo_100 : decode cL_areRulesSo 100 = .ok (.iload 7, 2) := by decide +kernel
theorem dL_areRulesSo_102 : decode cL_areRulesSo 102 = .ok (.ifCond .lt 175, 3) := by decide +kernel
theorem dL_areRulesSo_105 : decode cL_areRulesSo 105 = .ok (.iload 7, 2) := by decide +kernel
theorem dL_areRulesSo_107 : decode cL_areRulesSo 107 = .ok (.aload_n 0, 1) := by decide +kernel
theorem dL_areRulesSo_108 : decode cL_areRulesSo 108 = .ok (.iload 6, 2) := by decide +kernel
theorem dL_areRulesSo_110 : decode cL_areRulesSo 110 = .ok (.invokestatic 110, 3) := by decide +kernel
theorem dL_areRulesSo_113 : decode cL_areRulesSo 113 = .ok (.if_icmp .gt 164, 3) := by decide +kernel
theorem dL_areRulesSo_116 : decode cL_areRulesSo 116 = .ok (.iload 6, 2) := by decide +kernel
theorem dL_areRulesSo_118 : decode cL_areRulesSo 118 = .ok (.ifCond .gt 14, 3) := by decide +kernel
theorem dL_areRulesSo_121 : decode cL_areRulesSo 121 = .ok (.iload 7, 2) := by decide +kernel
theorem dL_areRulesSo_123 : decode cL_areRulesSo 123 = .ok (.aload_n 0, 1) := by decide +kernel
theorem dL_areRulesSo_124 : decode cL_areRulesSo 124 = .ok (.iload 6, 2) := by decide +kernel
theorem dL_areRulesSo_126 : decode cL_areRulesSo 126 = .ok (.invokestatic 110, 3) := by decide +kernel
theorem dL_areRulesSo_129 : decode cL_areRulesSo 129 = .ok (.if_icmp .ne 148, 3) := by decide +kernel
theorem dL_areRulesSo_132 : decode cL_areRulesSo 132 = .ok (.aload_n 0, 1) := by decide +kernel
theorem dL_areRulesSo_133 : decode cL_areRulesSo 133 = .ok (.iload 6, 2) := by decide +kernel
theorem dL_areRulesSo_135 : decode cL_areRulesSo 135 = .ok (.invokevirtual 113, 3) := by decide +kernel
theorem dL_areRulesSo_138 : decode cL_areRulesSo 138 = .ok (.iload 7, 2) := by decide +kernel
theorem dL_areRulesSo_140 : decode cL_areRulesSo 140 = .ok (.ifCond .ne 7, 3) := by decide +kernel
theorem dL_areRulesSo_143 : decode cL_areRulesSo 143 = .ok (.iconst 1, 1) := by decide +kernel
theorem dL_areRulesSo_144 : decode cL_areRulesSo 144 = .ok (.goto 4, 3) := by decide +kernel
theorem dL_areRulesSo_147 : decode cL_areRulesSo 147 = .ok (.iconst 0, 1) := by decide +kernel
theorem dL_areRulesSo_148 : decode cL_areRulesSo 148 = .ok (.if_icmp .ne 129, 3) := by decide +kernel
theorem dL_areRulesSo_151 : decode cL_areRulesSo 151 = .ok (.iload 7, 2) := by decide +kernel
theorem dL_areRulesSo_153 : decode cL_areRulesSo 153 = .ok (.ifCond .gt 12, 3) := by decide +kernel
theorem dL_areRulesSo_156 : decode cL_areRulesSo 156 = .ok (.aload_n 0, 1) := by decide +kernel
theorem dL_areRulesSo_157 : decode cL_areRulesSo 157 = .ok (.iload 6, 2) := by decide +kernel
theorem dL_areRulesSo_159 : decode cL_areRulesSo 159 = .ok (.invokevirtual 116, 3) := by decide +kernel
theorem dL_areRulesSo_162 : decode cL_areRulesSo 162 = .ok (.ifCond .eq 115, 3) := by decide +kernel
theorem dL_areRulesSo_165 : decode cL_areRulesSo 165 = .ok (.aload_n 0, 1) := by decide +kernel
theorem dL_areRulesSo_166 : decode cL_areRulesSo 166 = .ok (.iload 6, 2) := by decide +kernel
theorem dL_areRulesSo_168 : decode cL_areRulesSo 168 = .ok (.iload 6, 2) := by decide +kernel
theorem dL_areRulesSo_170 : decode cL_areRulesSo 170 = .ok (.invokevirtual 101, 3) := by decide +kernel
theorem dL_areRulesSo_173 : decode cL_areRulesSo 173 = .ok (.aload_n 0, 1) := by decide +kernel
theorem dL_areRulesSo_174 : decode cL_areRulesSo 174 = .ok (.iload 6, 2) := by decide +kernel
theorem dL_areRulesSo_176 : decode cL_areRulesSo 176 = .ok (.invokestatic 110, 3) := by decide +kernel
theorem dL_areRulesSo_179 : decode cL_areRulesSo 179 = .ok (.if_icmp .ne 98, 3) := by decide +kernel
theorem dL_areRulesSo_182 : decode cL_areRulesSo 182 = .ok (.iload 9, 2) := by decide +kernel
theorem dL_areRulesSo_184 : decode cL_areRulesSo 184 = .ok (.aload_n 0, 1) := by decide +kernel
theorem dL_areRulesSo_185 : decode cL_areRulesSo 185 = .ok (.iload 8, 2) := by decide +kernel
theorem dL_areRulesSo_187 : decode cL_areRulesSo 187 = .ok (.iload 6, 2) := by decide +kernel
theorem dL_areRulesSo_189 : decode cL_areRulesSo 189 = .ok (.invokevirtual 101, 3) := by decide +kernel
theorem dL_areRulesSo_192 : decode cL_areRulesSo 192 = .ok (.if_icmp .ne 85, 3) := by decide +kernel
theorem dL_areRulesSo_195 : decode cL_areRulesSo 195 = .ok (.iload 9, 2) := by decide +kernel
theorem dL_areRulesSo_197 : decode cL_areRulesSo 197 = .ok (.aload_n 0, 1) := by decide +kernel
theorem dL_areRulesSo_198 : decode cL_areRulesSo 198 = .ok (.iload 6, 2) := by decide +kernel
theorem dL_areRulesSo_200 : decode cL_areRulesSo 200 = .ok (.invokestatic 110, 3) := by decide +kernel
theorem dL_areRulesSo_203 : decode cL_areRulesSo 203 = .ok (.if_icmp .gt 74, 3) := by decide +kernel
theorem dL_areRulesSo_206 : decode cL_areRulesSo 206 = .ok (.iload 9, 2) := by decide +kernel
theorem dL_areRulesSo_208 : decode cL_areRulesSo 208 = .ok (.aload_n 0, 1) := by decide +kernel
theorem dL_areRulesSo_209 : decode cL_areRulesSo 209 = .ok (.iload 8, 2) := by decide +kernel
theorem dL_areRulesSo_211 : decode cL_areRulesSo 211 = .ok (.invokestatic 110, 3) := by decide +kernel
theorem dL_areRulesSo_214 : decode cL_areRulesSo 214 = .ok (.if_icmp .gt 63, 3) := by decide +kernel
theorem dL_areRulesSo_217 : decode cL_areRulesSo 217 = .ok (.iload 10, 2) := by decide +kernel
theorem dL_areRulesSo_219 : decode cL_areRulesSo 219 = .ok (.ifCond .lt 32, 3) := by decide +kernel
theorem dL_areRulesSo_222 : decode cL_areRulesSo 222 = .ok (.iload 10, 2) := by decide +kernel
theorem dL_areRulesSo_224 : decode cL_areRulesSo 224 = .ok (.iload 6, 2) := by decide +kernel
theorem dL_areRulesSo_226 : decode cL_areRulesSo 226 = .ok (.if_icmp .ge 51, 3) := by decide +kernel
theorem dL_areRulesSo_229 : decode cL_areRulesSo 229 = .ok (.iload 7, 2) := by decide +kernel
theorem dL_areRulesSo_231 : decode cL_areRulesSo 231 = .ok (.ifCond .ne 46, 3) := by decide +kernel
theorem dL_areRulesSo_234 : decode cL_areRulesSo 234 = .ok (.aload_n 0, 1) := by decide +kernel
theorem dL_areRulesSo_235 : decode cL_areRulesSo 235 = .ok (.iload 10, 2) := by decide +kernel
theorem dL_areRulesSo_237 : decode cL_areRulesSo 237 = .ok (.iload 6, 2) := by decide +kernel
theorem dL_areRulesSo_239 : decode cL_areRulesSo 239 = .ok (.invokevirtual 101, 3) := by decide +kernel
theorem dL_areRulesSo_242 : decode cL_areRulesSo 242 = .ok (.aload_n 0, 1) := by decide +kernel
theorem dL_areRulesSo_243 : decode cL_areRulesSo 243 = .ok (.iload 6, 2) := by decide +kernel
theorem dL_areRulesSo_245 : decode cL_areRulesSo 245 = .ok (.invokestatic 110, 3) := by decide +kernel
theorem dL_areRulesSo_248 : decode cL_areRulesSo 248 = .ok (.if_icmp .ne 29, 3) := by decide +kernel
theorem dL_areRulesSo_251 : decode cL_areRulesSo 251 = .ok (.aload_n 0, 1) := by decide +kernel
theorem dL_areRulesSo_252 : decode cL_areRulesSo 252 = .ok (.iload 6, 2) := by decide +kernel
theorem dL_areRulesSo_254 : decode cL_areRulesSo 254 = .ok (.invokevirtual 107, 3) := by decide +kernel
theorem dL_areRulesSo_257 : decode cL_areRulesSo 257 = .ok (.iconst 1, 1) := by decide +kernel
theorem dL_areRulesSo_258 : decode cL_areRulesSo 258 = .ok (.if_icmp .lt 19, 3) := by decide +kernel
theorem dL_areRulesSo_261 : decode cL_areRulesSo 261 = .ok (.aload_n 0, 1) := by decide +kernel
theorem dL_areRulesSo_262 : decode cL_areRulesSo 262 = .ok (.iload 6, 2) := by decide +kernel
theorem dL_areRulesSo_264 : decode cL_areRulesSo 264 = .ok (.invokevirtual 107, 3) := by decide +kernel
theorem dL_areRulesSo_267 : decode cL_areRulesSo 267 = .ok (.sipush 128, 3) := by decide +kernel
theorem dL_areRulesSo_270 : decode cL_areRulesSo 270 = .ok (.if_icmp .gt 7, 3) := by decide +kernel
theorem dL_areRulesSo_273 : decode cL_areRulesSo 273 = .ok (.iconst 1, 1) := by decide +kernel
theorem dL_areRulesSo_274 : decode cL_areRulesSo 274 = .ok (.goto 4, 3) := by decide +kernel
theorem dL_areRulesSo_277 : decode cL_areRulesSo 277 = .ok (.iconst 0, 1) := by decide +kernel
theorem dL_areRulesSo_278 : decode cL_areRulesSo 278 = .ok (.istore 5, 2) := by decide +kernel
theorem dL_areRulesSo_280 : decode cL_areRulesSo 280 = .ok (.iinc 6 1, 3) := by decide +kernel
theorem dL_areRulesSo_283 : decode cL_areRulesSo 283 = .ok (.goto (-270), 3) := by decide +kernel
theorem dL_areRulesSo_286 : decode cL_areRulesSo 286 = .ok (.iload 5, 2) := by decide +kernel
theorem dL_areRulesSo_288 : decode cL_areRulesSo 288 = .ok (.ifCond .eq 50, 3) := by decide +kernel
theorem dL_areRulesSo_291 : decode cL_areRulesSo 291 = .ok (.iload_n 2, 1) := by decide +kernel
theorem dL_areRulesSo_292 : decode cL_areRulesSo 292 = .ok (.sipush 4096, 3) := by decide +kernel
theorem dL_areRulesSo_295 : decode cL_areRulesSo 295 = .ok (.if_icmp .gt 43, 3) := by decide +kernel
theorem dL_areRulesSo_298 : decode cL_areRulesSo 298 = .ok (.aload_n 0, 1) := by decide +kernel
theorem dL_areRulesSo_299 : decode cL_areRulesSo 299 = .ok (.invokevirtual 73, 3) := by decide +kernel
theorem dL_areRulesSo_302 : decode cL_areRulesSo 302 = .ok (.iload_n 3, 1) := by decide +kernel
theorem dL_areRulesSo_303 : decode cL_areRulesSo 303 = .ok (.if_icmp .ne 35, 3) := by decide +kernel
theorem dL_areRulesSo_306 : decode cL_areRulesSo 306 = .ok (.aload_n 0, 1) := by decide +kernel
theorem dL_areRulesSo_307 : decode cL_areRulesSo 307 = .ok (.invokevirtual 76, 3) := by decide +kernel
theorem dL_areRulesSo_310 : decode cL_areRulesSo 310 = .ok (.iload 4, 2) := by decide +kernel
theorem dL_areRulesSo_312 : decode cL_areRulesSo 312 = .ok (.if_icmp .ne 26, 3) := by decide +kernel
theorem dL_areRulesSo_315 : decode cL_areRulesSo 315 = .ok (.aload_n 0, 1) := by decide +kernel
theorem dL_areRulesSo_316 : decode cL_areRulesSo 316 = .ok (.invokevirtual 69, 3) := by decide +kernel
theorem dL_areRulesSo_319 : decode cL_areRulesSo 319 = .ok (.fconst 0, 1) := by decide +kernel
theorem dL_areRulesSo_320 : decode cL_areRulesSo 320 = .ok (.fcmp .l, 1) := by decide +kernel
theorem dL_areRulesSo_321 : decode cL_areRulesSo 321 = .ok (.ifCond .lt 17, 3) := by decide +kernel
theorem dL_areRulesSo_324 : decode cL_areRulesSo 324 = .ok (.aload_n 0, 1) := by decide +kernel
theorem dL_areRulesSo_325 : decode cL_areRulesSo 325 = .ok (.invokevirtual 69, 3) := by decide +kernel
theorem dL_areRulesSo_328 : decode cL_areRulesSo 328 = .ok (.ldc 119, 2) := by decide +kernel
theorem dL_areRulesSo_330 : decode cL_areRulesSo 330 = .ok (.fcmp .g, 1) := by decide +kernel
theorem dL_areRulesSo_331 : decode cL_areRulesSo 331 = .ok (.ifCond .gt 7, 3) := by decide +kernel
theorem dL_areRulesSo_334 : decode cL_areRulesSo 334 = .ok (.iconst 1, 1) := by decide +kernel
theorem dL_areRulesSo_335 : decode cL_areRulesSo 335 = .ok (.goto 4, 3) := by decide +kernel
theorem dL_areRulesSo_338 : decode cL_areRulesSo 338 = .ok (.iconst 0, 1) := by decide +kernel
theorem dL_areRulesSo_339 : decode cL_areRulesSo 339 = .ok (.ireturn, 1) := by decide +kernel
set_option maxRecDepth 20000 in
theorem ggL_arePacketsSo_L_low : GoodIn wsL_arePacketsSo wsL_low := goodIn_r _ [4, 5] (by decide +kernel) (by decide +kernel)
set_option maxRecDepth 20000 in
theorem gL_arePacketsSo_L_low : GoodIn wsL_arePacketsSo (va_wsS RL 42 yL_low wsL_low) := goodIn_app (goodIn_of _ (by decide +kernel)) ggL_arePacketsSo_L_low
set_option maxRecDepth 20000 in
theorem ggL_arePacketsSo_L_decider : GoodIn wsL_arePacketsSo wsL_decider := goodIn_ca (goodIn_ca (goodIn_r _ [8, 9, 10, 11, 12, 13, 14, 15, 16, 17, 18, 19, 20, 21, 22, 23, 24, 25, 26, 27, 28, 29, 30, 31, 32, 33, 34, 35, 36, 37, 38, 39, 40, 41, 42, 43, 44, 45, 46, 47, 48, 49, 50, 51, 52, 53, 54, 55, 56, 57, 58, 59, 60, 61, 62, 63, 64, 65, 66, 67, 68, 69, 70, 71, 131, 132, 133, 134, 135, 136, 137, 138, 139, 140, 141, 142, 143, 144, 145, 146] (by decide +kernel) (by decide +kernel)) (goodIn_sub (fun _ h => List.mem_cons_of_mem _ (List.mem_append_left _ (List.mem_append_left _ (List.mem_append_right _ h)))) (by decide +kernel))) (goodIn_sub (fun _ h => List.mem_cons_of_mem _ (List.mem_append_left _ (List.mem_append_right _ h))) (by decide +kernel))
set_option maxRecDepth 20000 in
theorem gL_arePacketsSo_L_decider : GoodIn wsL_arePacketsSo (va_wsS RL 120 yL_decider wsL_decider) := goodIn_app (goodIn_of _ (by decide +kernel)) ggL_arePacketsSo_L_decider
set_option maxRecDepth 20000 in
theorem ggL_arePacketsSo_X2_rules : GoodIn wsL_arePacketsSo wsX2_rules := goodIn_r _ [75, 17, 28, 29, 30, 31, 32, 33, 131, 132, 133, 134, 135, 136, 137, 138] (by decide +kernel) (by decide +kernel)
set_option maxRecDepth 20000 in
theorem gL_arePacketsSo_X2_rules : GoodIn wsL_arePacketsSo (wsV RL 47 RX2 yX2_rules wsX2_rules) := goodIn_app (goodIn_of _ (by decide +kernel)) ggL_arePacketsSo_X2_rules
set_option maxRecDepth 20000 in
theorem ggL_arePacketsSo_X2_entries : GoodIn wsL_arePacketsSo wsX2_entries := goodIn_ca (goodIn_r _ [79, 80, 81, 82, 13, 83, 17, 27, 84, 85, 86, 87, 88, 89, 28, 29, 30, 31, 32, 33, 34, 35, 36, 37, 38, 39, 40, 41, 42, 43, 44, 45, 46, 47, 48, 49, 50, 90, 91, 92, 93, 94, 95, 96, 97, 98, 99, 100, 101, 102, 103, 104, 105, 106, 107, 108, 109, 110, 111, 112, 131, 132, 133, 134, 135, 136, 137, 138, 139, 140, 141, 142, 143, 144, 145, 146] (by decide +kernel) (by decide +kernel)) (goodIn_sub (fun _ h => List.mem_cons_of_mem _ (List.mem_append_right _ h)) (by decide +kernel))
set_option maxRecDepth 20000 in
theorem gL_arePacketsSo_X2_entries : GoodIn wsL_arePacketsSo (wsV RL 107 RX2 yX2_entries wsX2_entries) := goodIn_app (goodIn_of _ (by decide +kernel)) ggL_arePacketsSo_X2_entries
set_option maxRecDepth 20000 in
theorem ggL_arePacketsSo_X2_entryMask : GoodIn wsL_arePacketsSo wsX2_entryMask := goodIn_ca (goodIn_r _ [116, 93, 94, 95, 96, 80, 81, 82, 13, 83, 17, 27, 84, 85, 86, 87, 88, 89, 28, 29, 30, 31, 32, 33, 34, 35, 36, 37, 38, 39, 40, 41, 42, 43, 44, 45, 46, 47, 48, 49, 50, 117, 118, 119, 97, 98, 99, 100, 101, 102, 103, 104, 105, 120, 70, 71, 121, 122, 123, 124, 125, 126, 139, 140, 141, 142, 143, 144, 145, 146, 131, 132, 133, 134, 135, 136, 137, 138] (by decide +kernel) (by decide +kernel)) (goodIn_sub (fun _ h => List.mem_cons_of_mem _ (List.mem_append_right _ h)) (by decide +kernel))
set_option maxRecDepth 20000 in
theorem gL_arePacketsSo_X2_entryMask : GoodIn wsL_arePacketsSo (wsV RL 122 RX2 yX2_entryMask wsX2_entryMask) := goodIn_app (goodIn_of _ (by decide +kernel)) ggL_arePacketsSo_X2_entryMask
set_option maxRecDepth 20000 in
theorem ggL_arePacketsSo_X2_entryValue : GoodIn wsL_arePacketsSo wsX2_entryValue := goodIn_ca (goodIn_r _ [130, 80, 81, 82, 13, 83, 17, 27, 84, 85, 86, 87, 88, 89, 28, 29, 30, 31, 32, 33, 34, 35, 36, 37, 38, 39, 40, 41, 42, 43, 44, 45, 46, 47, 48, 49, 50, 117, 118, 119, 93, 94, 95, 96, 97, 98, 99, 100, 101, 102, 103, 104, 105, 120, 70, 71, 121, 122, 123, 131, 132, 133, 134, 135, 136, 137, 138, 139, 140, 141, 142, 143, 144, 145, 146] (by decide +kernel) (by decide +kernel)) (goodIn_sub (fun _ h => List.mem_cons_of_mem _ (List.mem_append_right _ h)) (by decide +kernel))
set_option maxRecDepth 20000 in
theorem gL_arePacketsSo_X2_entryValue : GoodIn wsL_arePacketsSo (wsV RL 125 RX2 yX2_entryValue wsX2_entryValue) := goodIn_app (goodIn_of _ (by decide +kernel)) ggL_arePacketsSo_X2_entryValue
theorem dL_arePacketsSo_0 : decode cL_arePacketsSo 0 = .ok (.iconst 0, 1) := by decide +kernel
theorem dL_arePacketsSo_1 : decode cL_arePacketsSo 1 = .ok (.istore_n 2, 1) := by decide +kernel
theorem dL_arePacketsSo_2 : decode cL_arePacketsSo 2 = .ok (.iload_n 2, 1) := by decide +kernel
theorem dL_arePacketsSo_3 : decode cL_arePacketsSo 3 = .ok (.bipush 6, 2) := by decide +kernel
theorem dL_arePacketsSo_5 : decode cL_arePacketsSo 5 = .ok (.if_icmp .ge 150, 3) := by decide +kernel
theorem dL_arePacketsSo_8 : decode cL_arePacketsSo 8 = .ok (.iload_n 1, 1) := by decide +kernel
theorem dL_arePacketsSo_9 : decode cL_arePacketsSo 9 = .ok (.iconst 2, 1) := by decide +kernel
theorem dL_arePacketsSo_10 : decode cL_arePacketsSo 10 = .ok (.iload_n 2, 1) := by decide +kernel
theorem dL_arePacketsSo_11 : decode cL_arePacketsSo 11 = .ok (.imul, 1) := by decide +kernel
theorem dL_arePacketsSo_12 : decode cL_arePacketsSo 12 = .ok (.ishr, 1) := by decide +kernel
theorem dL_arePacketsSo_13 : decode cL_arePacketsSo 13 = .ok (.sipush 4096, 3) := by decide +kernel
theorem dL_arePacketsSo_16 : decode cL_arePacketsSo 16 = .ok (.invokestatic 42, 3) := by decide +kernel
theorem dL_arePacketsSo_19 : decode cL_arePacketsSo 19 = .ok (.istore_n 3, 1) := by decide +kernel
theorem dL_arePacketsSo_20 : decode cL_arePacketsSo 20 = .ok (.aload_n 0, 1) := by decide +kernel
theorem dL_arePacketsSo_21 : decode cL_arePacketsSo 21 = .ok (.iload_n 3, 1) := by decide +kernel
theorem dL_arePacketsSo_22 : decode cL_arePacketsSo 22 = .ok (.sipush 128, 3) := by decide +kernel
theorem dL_arePacketsSo_25 : decode cL_arePacketsSo 25 = .ok (.idiv, 1) := by decide +kernel
theorem dL_arePacketsSo_26 : decode cL_arePacketsSo 26 = .ok (.iload_n 3, 1) := by decide +kernel
theorem dL_arePacketsSo_27 : decode cL_arePacketsSo 27 = .ok (.iconst 4, 1) := by decide +kernel
theorem dL_arePacketsSo_28 : decode cL_arePacketsSo 28 = .ok (.idiv, 1) := by decide +kernel
theorem dL_arePacketsSo_29 : decode cL_arePacketsSo 29 = .ok (.bipush 32, 2) := by decide +kernel
theorem dL_arePacketsSo_31 : decode cL_arePacketsSo 31 = .ok (.irem, 1) := by decide +kernel
theorem dL_arePacketsSo_32 : decode cL_arePacketsSo 32 = .ok (.iload_n 3, 1) := by decide +kernel
theorem dL_arePacketsSo_33 : decode cL_arePacketsSo 33 = .ok (.iconst 4, 1) := by decide +kernel
theorem dL_arePacketsSo_34 : decode cL_arePacketsSo 34 = .ok (.irem, 1) := by decide +kernel
theorem dL_arePacketsSo_35 : decode cL_arePacketsSo 35 = .ok (.invokestatic 120, 3) := by decide +kernel
theorem dL_arePacketsSo_38 : decode cL_arePacketsSo 38 = .ok (.istore 4, 2) := by decide +kernel
theorem dL_arePacketsSo_40 : decode cL_arePacketsSo 40 = .ok (.iconst 0, 1) := by decide +kernel
theorem dL_arePacketsSo_41 : decode cL_arePacketsSo 41 = .ok (.istore 5, 2) := by decide +kernel
theorem dL_arePacketsSo_43 : decode cL_arePacketsSo 43 = .ok (.iload 5, 2) := by decide +kernel
theorem dL_arePacketsSo_45 : decode cL_arePacketsSo 45 = .ok (.aload_n 0, 1) := by decide +kernel
theorem dL_arePacketsSo_46 : decode cL_arePacketsSo 46 = .ok (.invokevirtual 47, 3) := by decide +kernel
theorem dL_arePacketsSo_49 : decode cL_arePacketsSo 49 = .ok (.if_icmp .ge 100, 3) := by decide +kernel
theorem dL_arePacketsSo_52 : decode cL_arePacketsSo 52 = .ok (.iconst 0, 1) := by decide +kernel
theorem dL_arePacketsSo_53 : decode cL_arePacketsSo 53 = .ok (.istore 6, 2) := by decide +kernel
theorem dL_arePacketsSo_55 : decode cL_arePacketsSo 55 = .ok (.iconst 0, 1) := by decide +kernel
theorem dL_arePacketsSo_56 : decode cL_arePacketsSo 56 = .ok (.istore 7, 2) := by decide +kernel
theorem dL_arePacketsSo_58 : decode cL_arePacketsSo 58 = .ok (.iload 7, 2) := by decide +kernel
theorem dL_arePacketsSo_60 : decode cL_arePacketsSo 60 = .ok (.aload_n 0, 1) := by decide +kernel
theorem dL_arePacketsSo_61 : decode cL_arePacketsSo 61 = .ok (.iload 5, 2) := by decide +kernel
theorem dL_arePacketsSo_63 : decode cL_arePacketsSo 63 = .ok (.invokevirtual 107, 3) := by decide +kernel
theorem dL_arePacketsSo_66 : decode cL_arePacketsSo 66 = .ok (.if_icmp .ge 40, 3) := by decide +kernel
theorem dL_arePacketsSo_69 : decode cL_arePacketsSo 69 = .ok (.iload 6, 2) := by decide +kernel
theorem dL_arePacketsSo_71 : decode cL_arePacketsSo 71 = .ok (.iload_n 3, 1) := by decide +kernel
theorem dL_arePacketsSo_72 : decode cL_arePacketsSo 72 = .ok (.aload_n 0, 1) := by decide +kernel
theorem dL_arePacketsSo_73 : decode cL_arePacketsSo 73 = .ok (.iload 5, 2) := by decide +kernel
theorem dL_arePacketsSo_75 : decode cL_arePacketsSo 75 = .ok (.iload 7, 2) := by decide +kernel
theorem dL_arePacketsSo_77 : decode cL_arePacketsSo 77 = .ok (.invokevirtual 122, 3) := by decide +kernel
theorem dL_arePacketsSo_80 : decode cL_arePacketsSo 80 = .ok (.iand, 1) := by decide +kernel
theorem dL_arePacketsSo_81 : decode cL_arePacketsSo 81 = .ok (.aload_n 0, 1) := by decide +kernel
theorem dL_arePacketsSo_82 : decode cL_arePacketsSo 82 = .ok (.iload 5, 2) := by decide +kernel
theorem dL_arePacketsSo_84 : decode cL_arePacketsSo 84 = .ok (.iload 7, 2) := by decide +kernel
theorem dL_arePacketsSo_86 : decode cL_arePacketsSo 86 = .ok (.invokevirtual 125, 3) := by decide +kernel
theorem dL_arePacketsSo_89 : decode cL_arePacketsSo 89 = .ok (.if_icmp .ne 7, 3) := by decide +kernel
theorem dL_arePacketsSo_92 : decode cL_arePacketsSo 92 = .ok (.iconst 1, 1) := by decide +kernel
theorem dL_arePacketsSo_93 : decode cL_arePacketsSo 93 = .ok (.goto 4, 3) := by decide +kernel
theorem dL_arePacketsSo_96 : decode cL_arePacketsSo 96 = .ok (.iconst 0, 1) := by decide +kernel
theorem dL_arePacketsSo_97 : decode cL_arePacketsSo 97 = .ok (.iadd, 1) := by decide +kernel
theorem dL_arePacketsSo_98 : decode cL_arePacketsSo 98 = .ok (.istore 6, 2) := by decide +kernel
theorem dL_arePacketsSo_100 : decode cL_arePacketsSo 100 = .ok (.iinc 7 1, 3) := by decide +kernel
theorem dL_arePacketsSo_103 : decode cL_arePacketsSo 103 = .ok (.goto (-45), 3) := by decide +kernel
theorem dL_arePacketsSo_106 : decode cL_arePacketsSo 106 = .ok (.iload 6, 2) := by decide +kernel
theorem dL_arePacketsSo_108 : decode cL_arePacketsSo 108 = .ok (.iconst 1, 1) := by decide +kernel
theorem dL_arePacketsSo_109 : decode cL_arePacketsSo 109 = .ok (.if_icmp .gt 32, 3) := by decide +kernel
theorem dL_arePacketsSo_112 : decode cL_arePacketsSo 112 = .ok (.iload 5, 2) := by decide +kernel
theorem dL_arePacketsSo_114 : decode cL_arePacketsSo 114 = .ok (.iload 4, 2) := by decide +kernel
theorem dL_arePacketsSo_116 : decode cL_arePacketsSo 116 = .ok (.if_icmp .ne 8, 3) := by decide +kernel
theorem dL_arePacketsSo_119 : decode cL_arePacketsSo 119 = .ok (.iload 6, 2) := by decide +kernel
theorem dL_arePacketsSo_121 : decode cL_arePacketsSo 121 = .ok (.ifCond .eq 20, 3) := by decide +kernel
theorem dL_arePacketsSo_124 : decode cL_arePacketsSo 124 = .ok (.iload 4, 2) := by decide +kernel
theorem dL_arePacketsSo_126 : decode cL_arePacketsSo 126 = .ok (.ifCond .lt 10, 3) := by decide +kernel
theorem dL_arePacketsSo_129 : decode cL_arePacketsSo 129 = .ok (.iload 5, 2) := by decide +kernel
theorem dL_arePacketsSo_131 : decode cL_arePacketsSo 131 = .ok (.iload 4, 2) := by decide +kernel
theorem dL_arePacketsSo_133 : decode cL_arePacketsSo 133 = .ok (.if_icmp .ge 10, 3) := by decide +kernel
theorem dL_arePacketsSo_136 : decode cL_arePacketsSo 136 = .ok (.iload 6, 2) := by decide +kernel
theorem dL_arePacketsSo_138 : decode cL_arePacketsSo 138 = .ok (.ifCond .le 5, 3) := by decide +kernel
theorem dL_arePacketsSo_141 : decode cL_arePacketsSo 141 = .ok (.iconst 0, 1) := by decide +kernel
theorem dL_arePacketsSo_142 : decode cL_arePacketsSo 142 = .ok (.ireturn, 1) := by decide +kernel
theorem dL_arePacketsSo_143 : decode cL_arePacketsSo 143 = .ok (.iinc 5 1, 3) := by decide +kernel
theorem dL_arePacketsSo_146 : decode cL_arePacketsSo 146 = .ok (.goto (-103), 3) := by decide +kernel
theorem dL_arePacketsSo_149 : decode cL_arePacketsSo 149 = .ok (.iinc 2 1, 3) := by decide +kernel
theorem dL_arePacketsSo_152 : decode cL_arePacketsSo 152 = .ok (.goto (-150), 3) := by decide +kernel
theorem dL_arePacketsSo_155 : decode cL_arePacketsSo 155 = .ok (.iconst 1, 1) := by decide +kernel
theorem dL_arePacketsSo_156 : decode cL_arePacketsSo 156 = .ok (.ireturn, 1) := by decide +kernel
set_option maxRecDepth 20000 in
theorem ggL_isMovedSo_X2_permitted : GoodIn wsL_isMovedSo wsX2_permitted := goodIn_r _ [5, 6, 7, 8, 4, 9, 10, 11, 12, 13, 14, 15, 16, 17, 18, 19, 20, 21, 22, 23, 24, 25, 26, 27, 28, 29, 30, 31, 32, 33, 34, 35, 36, 37, 38, 39, 40, 41, 42, 43, 44, 45, 46, 47, 48, 49, 50, 51, 52, 53, 54, 55, 56, 57, 58, 59, 60, 151, 152, 153, 154, 155, 156, 157, 158, 159, 160, 161, 162, 163, 164, 165, 166] (by decide +kernel) (by decide +kernel)
set_option maxRecDepth 20000 in
theorem gL_isMovedSo_X2_permitted : GoodIn wsL_isMovedSo (wsV RL 73 RX2 yX2_permitted wsX2_permitted) := goodIn_app (goodIn_of _ (by decide +kernel)) ggL_isMovedSo_X2_permitted
set_option maxRecDepth 20000 in
theorem ggL_isMovedSo_X2_hits : GoodIn wsL_isMovedSo wsX2_hits := goodIn_ca (goodIn_r _ [64, 65, 66, 67, 68, 4, 69, 10, 11, 70, 71, 72, 73, 74, 75, 15, 16, 17, 18, 19, 20, 21, 22, 23, 24, 25, 26, 27, 28, 29, 30, 31, 32, 33, 34, 35, 36, 37, 156, 157, 158, 159, 160, 151, 152, 153, 154, 155, 164, 165, 166] (by decide +kernel) (by decide +kernel)) (goodIn_sub (fun _ h => List.mem_cons_of_mem _ (List.mem_append_right _ h)) (by decide +kernel))
set_option maxRecDepth 20000 in
theorem gL_isMovedSo_X2_hits : GoodIn wsL_isMovedSo (wsV RL 92 RX2 yX2_hits wsX2_hits) := goodIn_app (goodIn_of _ (by decide +kernel)) ggL_isMovedSo_X2_hits
set_option maxRecDepth 20000 in
theorem ggL_isMovedSo_X2_move : GoodIn wsL_isMovedSo wsX2_move := goodIn_ca (goodIn_r _ [79, 10, 66, 67, 68, 4, 69, 11, 70, 71, 72, 73, 74, 75, 15, 16, 17, 18, 19, 20, 21, 22, 23, 24, 25, 26, 27, 28, 29, 30, 31, 32, 33, 34, 35, 36, 37, 80, 81, 82, 83, 84, 6, 7, 8, 9, 12, 13, 14, 38, 39, 40, 41, 42, 43, 44, 45, 46, 47, 48, 49, 50, 51, 52, 53, 85, 86, 87, 88, 89, 90, 91, 92, 93, 94, 95, 96, 97, 98, 99, 100, 101, 102, 103, 104, 105, 106, 107, 108, 109, 110, 111, 112, 113, 114, 115, 116, 117, 118, 119, 120, 121, 122, 123, 124, 125, 126, 127, 128, 129, 130, 131, 132, 133, 134, 135, 136, 137, 138, 139, 140, 141, 142, 143, 144, 145, 146, 147, 148, 149, 150, 54, 55, 56, 57, 58, 59, 60, 151, 152, 153, 154, 155, 164, 165, 166, 156, 157, 158, 159, 160, 161, 162, 163] (by decide +kernel) (by decide +kernel)) (goodIn_sub (fun _ h => List.mem_cons_of_mem _ (List.mem_append_right _ h)) (by decide +kernel))
set_option maxRecDepth 20000 in
theorem gL_isMovedSo_X2_move : GoodIn wsL_isMovedSo (wsV RL 19 RX2 yX2_move wsX2_move) := goodIn_app (goodIn_of _ (by decide +kernel)) ggL_isMovedSo_X2_move
theorem dL_isMovedSo_0 : decode cL_isMovedSo 0 = .ok (.aload_n 0, 1) := by decide +kernel
theorem dL_isMovedSo_1 : decode cL_isMovedSo 1 = .ok (.invokevirtual 73, 3) := by decide +kernel
theorem dL_isMovedSo_4 : decode cL_isMovedSo 4 = .ok (.istore_n 3, 1) := by decide +kernel
theorem dL_isMovedSo_5 : decode cL_isMovedSo 5 = .ok (.aload_n 0, 1) := by decide +kernel
theorem dL_isMovedSo_6 : decode cL_isMovedSo 6 = .ok (.iload_n 1, 1) := by decide +kernel
theorem dL_isMovedSo_7 : decode cL_isMovedSo 7 = .ok (.invokevirtual 92, 3) := by decide +kernel
theorem dL_isMovedSo_10 : decode cL_isMovedSo 10 = .ok (.istore 4, 2) := by decide +kernel
theorem dL_isMovedSo_12 : decode cL_isMovedSo 12 = .ok (.aload_n 0, 1) := by decide +kernel
theorem dL_isMovedSo_13 : decode cL_isMovedSo 13 = .ok (.iload_n 1, 1) := by decide +kernel
theorem dL_isMovedSo_14 : decode cL_isMovedSo 14 = .ok (.iload_n 2, 1) := by decide +kernel
theorem dL_isMovedSo_15 : decode cL_isMovedSo 15 = .ok (.invokevirtual 19, 3) := by decide +kernel
theorem dL_isMovedSo_18 : decode cL_isMovedSo 18 = .ok (.istore 5, 2) := by decide +kernel
theorem dL_isMovedSo_20 : decode cL_isMovedSo 20 = .ok (.aload_n 0, 1) := by decide +kernel
theorem dL_isMovedSo_21 : decode cL_isMovedSo 21 = .ok (.invokevirtual 73, 3) := by decide +kernel
theorem dL_isMovedSo_24 : decode cL_isMovedSo 24 = .ok (.istore 6, 2) := by decide +kernel
theorem dL_isMovedSo_26 : decode cL_isMovedSo 26 = .ok (.iload 6, 2) := by decide +kernel
theorem dL_isMovedSo_28 : decode cL_isMovedSo 28 = .ok (.iload_n 3, 1) := by decide +kernel
theorem dL_isMovedSo_29 : decode cL_isMovedSo 29 = .ok (.if_icmp .le 10, 3) := by decide +kernel
theorem dL_isMovedSo_32 : decode cL_isMovedSo 32 = .ok (.iload 6, 2) := by decide +kernel
theorem dL_isMovedSo_34 : decode cL_isMovedSo 34 = .ok (.iload_n 3, 1) := by decide +kernel
theorem dL_isMovedSo_35 : decode cL_isMovedSo 35 = .ok (.isub, 1) := by decide +kernel
theorem dL_isMovedSo_36 : decode cL_isMovedSo 36 = .ok (.goto 7, 3) := by decide +kernel
theorem dL_isMovedSo_39 : decode cL_isMovedSo 39 = .ok (.iload_n 3, 1) := by decide +kernel
theorem dL_isMovedSo_40 : decode cL_isMovedSo 40 = .ok (.iload 6, 2) := by decide +kernel
theorem dL_isMovedSo_42 : decode cL_isMovedSo 42 = .ok (.isub, 1) := by decide +kernel
theorem dL_isMovedSo_43 : decode cL_isMovedSo 43 = .ok (.iload 5, 2) := by decide +kernel
theorem dL_isMovedSo_45 : decode cL_isMovedSo 45 = .ok (.if_icmp .gt 36, 3) := by decide +kernel
theorem dL_isMovedSo_48 : decode cL_isMovedSo 48 = .ok (.aload_n 0, 1) := by decide +kernel
theorem dL_isMovedSo_49 : decode cL_isMovedSo 49 = .ok (.iload_n 2, 1) := by decide +kernel
theorem dL_isMovedSo_50 : decode cL_isMovedSo 50 = .ok (.invokevirtual 92, 3) := by decide +kernel
theorem dL_isMovedSo_53 : decode cL_isMovedSo 53 = .ok (.iload 4, 2) := by decide +kernel
theorem dL_isMovedSo_55 : decode cL_isMovedSo 55 = .ok (.if_icmp .ne 26, 3) := by decide +kernel
theorem dL_isMovedSo_58 : decode cL_isMovedSo 58 = .ok (.aload_n 0, 1) := by decide +kernel
theorem dL_isMovedSo_59 : decode cL_isMovedSo 59 = .ok (.iload_n 2, 1) := by decide +kernel
theorem dL_isMovedSo_60 : decode cL_isMovedSo 60 = .ok (.iload_n 1, 1) := by decide +kernel
theorem dL_isMovedSo_61 : decode cL_isMovedSo 61 = .ok (.invokevirtual 19, 3) := by decide +kernel
theorem dL_isMovedSo_64 : decode cL_isMovedSo 64 = .ok (.iload 5, 2) := by decide +kernel
theorem dL_isMovedSo_66 : decode cL_isMovedSo 66 = .ok (.if_icmp .ne 15, 3) := by decide +kernel
theorem dL_isMovedSo_69 : decode cL_isMovedSo 69 = .ok (.aload_n 0, 1) := by decide +kernel
theorem dL_isMovedSo_70 : decode cL_isMovedSo 70 = .ok (.invokevirtual 73, 3) := by decide +kernel
theorem dL_isMovedSo_73 : decode cL_isMovedSo 73 = .ok (.iload_n 3, 1) := by decide +kernel
theorem dL_isMovedSo_74 : decode cL_isMovedSo 74 = .ok (.if_icmp .ne 7, 3) := by decide +kernel
theorem dL_isMovedSo_77 : decode cL_isMovedSo 77 = .ok (.iconst 1, 1) := by decide +kernel
theorem dL_isMovedSo_78 : decode cL_isMovedSo 78 = .ok (.goto 4, 3) := by decide +kernel
theorem dL_isMovedSo_81 : decode cL_isMovedSo 81 = .ok (.iconst 0, 1) := by decide +kernel
theorem dL_isMovedSo_82 : decode cL_isMovedSo 82 = .ok (.istore 7, 2) := by decide +kernel
theorem dL_isMovedSo_84 : decode cL_isMovedSo 84 = .ok (.iload 7, 2) := by decide +kernel
theorem dL_isMovedSo_86 : decode cL_isMovedSo 86 = .ok (.ifCond .eq 17, 3) := by decide +kernel
theorem dL_isMovedSo_89 : decode cL_isMovedSo 89 = .ok (.aload_n 0, 1) := by decide +kernel
theorem dL_isMovedSo_90 : decode cL_isMovedSo 90 = .ok (.iload_n 1, 1) := by decide +kernel
theorem dL_isMovedSo_91 : decode cL_isMovedSo 91 = .ok (.invokevirtual 92, 3) := by decide +kernel
theorem dL_isMovedSo_94 : decode cL_isMovedSo 94 = .ok (.iload 4, 2) := by decide +kernel
theorem dL_isMovedSo_96 : decode cL_isMovedSo 96 = .ok (.if_icmp .ne 7, 3) := by decide +kernel
theorem dL_isMovedSo_99 : decode cL_isMovedSo 99 = .ok (.iconst 1, 1) := by decide +kernel
theorem dL_isMovedSo_100 : decode cL_isMovedSo 100 = .ok (.goto 4, 3) := by decide +kernel
theorem dL_isMovedSo_103 : decode cL_isMovedSo 103 = .ok (.iconst 0, 1) := by decide +kernel
theorem dL_isMovedSo_104 : decode cL_isMovedSo 104 = .ok (.ireturn, 1) := by decide +kernel
