set_option maxRecDepth 20000 in
theorem ggL_add_X2_add : GoodIn wsL_add wsX2_add := goodIn_ca (goodIn_ca (goodIn_r _ [7, 8, 9, 10, 11, 12, 13, 14, 15, 16, 17, 18, 19, 20, 6, 21, 22, 23, 24, 25, 26, 27, 28, 29, 30, 31, 32, 33, 34, 35, 36, 37, 38, 39, 40, 41, 42, 43, 44, 45, 46, 47, 48, 49, 50, 51, 52, 53, 54, 55, 56, 57, 58, 59, 60, 61, 62, 63, 64, 65, 66, 67, 68, 69, 70, 71, 72, 73, 74, 75, 76, 77, 78, 79, 80, 81, 82, 83, 84, 85, 86, 87, 88, 89, 90, 91, 92, 93, 94, 95, 96, 97, 98, 99, 100, 101, 102, 103, 104, 105, 106, 107, 108, 109, 110, 111, 112, 113, 114, 115, 116] (by decide +kernel) (by decide +kernel)) (goodIn_sub (fun _ h => List.mem_cons_of_mem _ (List.mem_append_left _ (List.mem_append_right _ h))) (by decide +kernel))) (goodIn_sub (fun _ h => List.mem_cons_of_mem _ (List.mem_append_right _ h)) (by decide +kernel))
set_option maxRecDepth 20000 in
theorem gL_add_X2_add : GoodIn wsL_add (wsV RL 7 RX2 yX2_add wsX2_add) := goodIn_app (goodIn_of _ (by decide +kernel)) ggL_add_X2_add
theorem dL_add_0 : decode cL_add 0 = .ok (.aload 7, 2) := by decide +kernel
theorem dL_add_2 : decode cL_add 2 = .ok (.iconst 0, 1) := by decide +kernel
theorem dL_add_3 : decode cL_add 3 = .ok (.aload_n 0, 1) := by decide +kernel
theorem dL_add_4 : decode cL_add 4 = .ok (.iload_n 1, 1) := by decide +kernel
theorem dL_add_5 : decode cL_add 5 = .ok (.iload_n 2, 1) := by decide +kernel
theorem dL_add_6 : decode cL_add 6 = .ok (.iload_n 3, 1) := by decide +kernel
theorem dL_add_7 : decode cL_add 7 = .ok (.iload 4, 2) := by decide +kernel
theorem dL_add_9 : decode cL_add 9 = .ok (.iload 5, 2) := by decide +kernel
theorem dL_add_11 : decode cL_add 11 = .ok (.iload 6, 2) := by decide +kernel
theorem dL_add_13 : decode cL_add 13 = .ok (.invokevirtual 7, 3) := by decide +kernel
theorem dL_add_16 : decode cL_add 16 = .ok (.i2l, 1) := by decide +kernel
theorem dL_add_17 : decode cL_add 17 = .ok (.lastore, 1) := by decide +kernel
theorem dL_add_18 : decode cL_add 18 = .ok (.goto 11, 3) := by decide +kernel
theorem dL_add_21 : decode cL_add 21 = .ok (.astore 8, 2) := by decide +kernel
theorem dL_add_23 : decode cL_add 23 = .ok (.iconst 1, 1) := by decide +kernel
theorem dL_add_24 : decode cL_add 24 = .ok (.ireturn, 1) := by decide +kernel
theorem dL_add_25 : decode cL_add 25 = .ok (.astore 8, 2) := by decide +kernel
theorem dL_add_27 : decode cL_add 27 = .ok (.iconst 2, 1) := by decide +kernel
theorem dL_add_28 : decode cL_add 28 = .ok (.ireturn, 1) := by decide +kernel
theorem dL_add_29 : decode cL_add 29 = .ok (.iconst 0, 1) := by decide +kernel
theorem dL_add_30 : decode cL_add 30 = .ok (.ireturn, 1) := by decide +kernel
set_option maxRecDepth 20000 in
theorem ggL_remove_X2_remove : GoodIn wsL_remove wsX2_remove := goodIn_ca (goodIn_r _ [6, 7, 8, 9, 10, 5, 11, 12, 13, 14, 15, 16, 17, 18, 19, 20, 21, 22, 23, 24, 25, 26, 27, 28, 29, 30, 31, 32, 33, 34, 35, 36, 37, 38, 39, 40, 41, 42, 43, 44, 45, 46, 47, 48, 49, 50, 51, 52, 53, 54, 55, 56, 57, 58, 59, 60, 61, 62, 63, 64, 65, 66, 67, 68, 69, 70, 71, 72, 73, 74, 75, 76, 77, 78, 79, 80, 81, 82, 83, 84, 85, 86, 87, 88, 89, 90, 91, 92, 93, 94, 95, 96, 97, 98, 99, 100, 101, 102, 103, 104, 105, 106] (by decide +kernel) (by decide +kernel)) (goodIn_sub (fun _ h => List.mem_cons_of_mem _ (List.mem_append_right _ h)) (by decide +kernel))
set_option maxRecDepth 20000 in
theorem gL_remove_X2_remove : GoodIn wsL_remove (wsV RL 17 RX2 yX2_remove wsX2_remove) := goodIn_app (goodIn_of _ (by decide +kernel)) ggL_remove_X2_remove
theorem dL_remove_0 : decode cL_remove 0 = .ok (.aload_n 2, 1) := by decide +kernel
theorem dL_remove_1 : decode cL_remove 1 = .ok (.iconst 0, 1) := by decide +kernel
theorem dL_remove_2 : decode cL_remove 2 = .ok (.aload_n 0, 1) := by decide +kernel
theorem dL_remove_3 : decode cL_remove 3 = .ok (.iload_n 1, 1) := by decide +kernel
theorem dL_remove_4 : decode cL_remove 4 = .ok (.invokevirtual 17, 3) := by decide +kernel
theorem dL_remove_7 : decode cL_remove 7 = .ok (.i2l, 1) := by decide +kernel
theorem dL_remove_8 : decode cL_remove 8 = .ok (.lastore, 1) := by decide +kernel
theorem dL_remove_9 : decode cL_remove 9 = .ok (.goto 6, 3) := by decide +kernel
theorem dL_remove_12 : decode cL_remove 12 = .ok (.astore_n 3, 1) := by decide +kernel
theorem dL_remove_13 : decode cL_remove 13 = .ok (.iconst 1, 1) := by decide +kernel
theorem dL_remove_14 : decode cL_remove 14 = .ok (.ireturn, 1) := by decide +kernel
theorem dL_remove_15 : decode cL_remove 15 = .ok (.iconst 0, 1) := by decide +kernel
theorem dL_remove_16 : decode cL_remove 16 = .ok (.ireturn, 1) := by decide +kernel
set_option maxRecDepth 20000 in
theorem ggL_move_X2_move : GoodIn wsL_move wsX2_move := goodIn_ca (goodIn_r _ [6, 7, 8, 9, 10, 5, 11, 12, 13, 14, 15, 16, 17, 18, 19, 20, 21, 22, 23, 24, 25, 26, 27, 28, 29, 30, 31, 32, 33, 34, 35, 36, 37, 38, 39, 40, 41, 42, 43, 44, 45, 46, 47, 48, 49, 50, 51, 52, 53, 54, 55, 56, 57, 58, 59, 60, 61, 62, 63, 64, 65, 66, 67, 68, 69, 70, 71, 72, 73, 74, 75, 76, 77, 78, 79, 80, 81, 82, 83, 84, 85, 86, 87, 88, 89, 90, 91, 92, 93, 94, 95, 96, 97, 98, 99, 100, 101, 102, 103, 104, 105, 106, 107, 108, 109, 110, 111, 112, 113, 114, 115, 116, 117, 118, 119, 120, 121, 122, 123, 124, 125, 126, 127, 128, 129, 130, 131, 132, 133, 134, 135, 136, 137, 138, 139, 140, 141, 142, 143, 144, 145, 146, 147, 148, 149, 150, 151, 152, 153, 154, 155, 156, 157, 158] (by decide +kernel) (by decide +kernel)) (goodIn_sub (fun _ h => List.mem_cons_of_mem _ (List.mem_append_right _ h)) (by decide +kernel))
set_option maxRecDepth 20000 in
theorem gL_move_X2_move : GoodIn wsL_move (wsV RL 23 RX2 yX2_move wsX2_move) := goodIn_app (goodIn_of _ (by decide +kernel)) ggL_move_X2_move
theorem dL_move_0 : decode cL_move 0 = .ok (.aload_n 3, 1) := by decide +kernel
theorem dL_move_1 : decode cL_move 1 = .ok (.iconst 0, 1) := by decide +kernel
theorem dL_move_2 : decode cL_move 2 = .ok (.aload_n 0, 1) := by decide +kernel
theorem dL_move_3 : decode cL_move 3 = .ok (.iload_n 1, 1) := by decide +kernel
theorem dL_move_4 : decode cL_move 4 = .ok (.iload_n 2, 1) := by decide +kernel
theorem dL_move_5 : decode cL_move 5 = .ok (.invokevirtual 23, 3) := by decide +kernel
theorem dL_move_8 : decode cL_move 8 = .ok (.i2l, 1) := by decide +kernel
theorem dL_move_9 : decode cL_move 9 = .ok (.lastore, 1) := by decide +kernel
theorem dL_move_10 : decode cL_move 10 = .ok (.goto 7, 3) := by decide +kernel
theorem dL_move_13 : decode cL_move 13 = .ok (.astore 4, 2) := by decide +kernel
theorem dL_move_15 : decode cL_move 15 = .ok (.iconst 1, 1) := by decide +kernel
theorem dL_move_16 : decode cL_move 16 = .ok (.ireturn, 1) := by decide +kernel
theorem dL_move_17 : decode cL_move 17 = .ok (.iconst 0, 1) := by decide +kernel
theorem dL_move_18 : decode cL_move 18 = .ok (.ireturn, 1) := by decide +kernel
set_option maxRecDepth 20000 in
theorem ggL_sources_X2_sources : GoodIn wsL_sources wsX2_sources := goodIn_ca (goodIn_r _ [6, 7, 8, 9, 10, 5, 11, 12, 13, 14, 15, 16, 17, 18, 19, 20, 21, 22, 23, 24, 25, 26, 27, 28, 29, 30, 31, 32, 33, 34, 35, 36, 37, 38, 39, 40, 41, 42, 43, 44, 45, 46, 47, 48, 49, 50, 51, 52, 53, 54, 55, 56, 57, 58, 59, 60, 61, 62, 63, 64, 65] (by decide +kernel) (by decide +kernel)) (goodIn_sub (fun _ h => List.mem_cons_of_mem _ (List.mem_append_right _ h)) (by decide +kernel))
set_option maxRecDepth 20000 in
theorem gL_sources_X2_sources : GoodIn wsL_sources (wsV RL 27 RX2 yX2_sources wsX2_sources) := goodIn_app (goodIn_of _ (by decide +kernel)) ggL_sources_X2_sources
theorem dL_sources_0 : decode cL_sources 0 = .ok (.aload_n 2, 1) := by decide +kernel
theorem dL_sources_1 : decode cL_sources 1 = .ok (.iconst 0, 1) := by decide +kernel
theorem dL_sources_2 : decode cL_sources 2 = .ok (.aload_n 0, 1) := by decide +kernel
theorem dL_sources_3 : decode cL_sources 3 = .ok (.iload_n 1, 1) := by decide +kernel
theorem dL_sources_4 : decode cL_sources 4 = .ok (.invokevirtual 27, 3) := by decide +kernel
theorem dL_sources_7 : decode cL_sources 7 = .ok (.i2l, 1) := by decide +kernel
theorem dL_sources_8 : decode cL_sources 8 = .ok (.lastore, 1) := by decide +kernel
theorem dL_sources_9 : decode cL_sources 9 = .ok (.goto 6, 3) := by decide +kernel
theorem dL_sources_12 : decode cL_sources 12 = .ok (.astore_n 3, 1) := by decide +kernel
theorem dL_sources_13 : decode cL_sources 13 = .ok (.iconst 1, 1) := by decide +kernel
theorem dL_sources_14 : decode cL_sources 14 = .ok (.ireturn, 1) := by decide +kernel
theorem dL_sources_15 : decode cL_sources 15 = .ok (.iconst 0, 1) := by decide +kernel
theorem dL_sources_16 : decode cL_sources 16 = .ok (.ireturn, 1) := by decide +kernel
set_option maxRecDepth 20000 in
theorem ggL_destinations_X2_destinations : GoodIn wsL_destinations wsX2_destinations := goodIn_ca (goodIn_r _ [6, 7, 8, 9, 10, 5, 11, 12, 13, 14, 15, 16, 17, 18, 19, 20, 21, 22, 23, 24, 25, 26, 27, 28, 29, 30, 31, 32, 33, 34, 35, 36, 37, 38, 39, 40, 41, 42, 43, 44, 45, 46, 47, 48, 49, 50, 51, 52, 53, 54, 55, 56, 57, 58, 59, 60, 61, 62, 63, 64, 65] (by decide +kernel) (by decide +kernel)) (goodIn_sub (fun _ h => List.mem_cons_of_mem _ (List.mem_append_right _ h)) (by decide +kernel))
set_option maxRecDepth 20000 in
theorem gL_destinations_X2_destinations : GoodIn wsL_destinations (wsV RL 30 RX2 yX2_destinations wsX2_destinations) := goodIn_app (goodIn_of _ (by decide +kernel)) ggL_destinations_X2_destinations
theorem dL_destinations_0 : decode cL_destinations 0 = .ok (.aload_n 2, 1) := by decide +kernel
theorem dL_destinations_1 : decode cL_destinations 1 = .ok (.iconst 0, 1) := by decide +kernel
theorem dL_destinations_2 : decode cL_destinations 2 = .ok (.aload_n 0, 1) := by decide +kernel
theorem dL_destinations_3 : decode cL_destinations 3 = .ok (.iload_n 1, 1) := by decide +kernel
theorem dL_destinations_4 : decode cL_destinations 4 = .ok (.invokevirtual 30, 3) := by decide +kernel
theorem dL_destinations_7 : decode cL_destinations 7 = .ok (.i2l, 1) := by decide +kernel
theorem dL_destinations_8 : decode cL_destinations 8 = .ok (.lastore, 1) := by decide +kernel
theorem dL_destinations_9 : decode cL_destinations 9 = .ok (.goto 6, 3) := by decide +kernel
theorem dL_destinations_12 : decode cL_destinations 12 = .ok (.astore_n 3, 1) := by decide +kernel
theorem dL_destinations_13 : decode cL_destinations 13 = .ok (.iconst 1, 1) := by decide +kernel
theorem dL_destinations_14 : decode cL_destinations 14 = .ok (.ireturn, 1) := by decide +kernel
theorem dL_destinations_15 : decode cL_destinations 15 = .ok (.iconst 0, 1) := by decide +kernel
theorem dL_destinations_16 : decode cL_destinations 16 = .ok (.ireturn, 1) := by decide +kernel
set_option maxRecDepth 20000 in
theorem ggL_protocols_X2_protocols : GoodIn wsL_protocols wsX2_protocols := goodIn_ca (goodIn_r _ [6, 7, 8, 9, 10, 5, 11, 12, 13, 14, 15, 16, 17, 18, 19, 20, 21, 22, 23, 24, 25, 26, 27, 28, 29, 30, 31, 32, 33, 34, 35, 36, 37, 38, 39, 40, 41, 42, 43, 44, 45, 46, 47, 48, 49, 50, 51, 52, 53, 54, 55] (by decide +kernel) (by decide +kernel)) (goodIn_sub (fun _ h => List.mem_cons_of_mem _ (List.mem_append_right _ h)) (by decide +kernel))
set_option maxRecDepth 20000 in
theorem gL_protocols_X2_protocols : GoodIn wsL_protocols (wsV RL 33 RX2 yX2_protocols wsX2_protocols) := goodIn_app (goodIn_of _ (by decide +kernel)) ggL_protocols_X2_protocols
theorem dL_protocols_0 : decode cL_protocols 0 = .ok (.aload_n 2, 1) := by decide +kernel
theorem dL_protocols_1 : decode cL_protocols 1 = .ok (.iconst 0, 1) := by decide +kernel
theorem dL_protocols_2 : decode cL_protocols 2 = .ok (.aload_n 0, 1) := by decide +kernel
theorem dL_protocols_3 : decode cL_protocols 3 = .ok (.iload_n 1, 1) := by decide +kernel
theorem dL_protocols_4 : decode cL_protocols 4 = .ok (.invokevirtual 33, 3) := by decide +kernel
theorem dL_protocols_7 : decode cL_protocols 7 = .ok (.i2l, 1) := by decide +kernel
theorem dL_protocols_8 : decode cL_protocols 8 = .ok (.lastore, 1) := by decide +kernel
theorem dL_protocols_9 : decode cL_protocols 9 = .ok (.goto 6, 3) := by decide +kernel
theorem dL_protocols_12 : decode cL_protocols 12 = .ok (.astore_n 3, 1) := by decide +kernel
theorem dL_protocols_13 : decode cL_protocols 13 = .ok (.iconst 1, 1) := by decide +kernel
theorem dL_protocols_14 : decode cL_protocols 14 = .ok (.ireturn, 1) := by decide +kernel
theorem dL_protocols_15 : decode cL_protocols 15 = .ok (.iconst 0, 1) := by decide +kernel
theorem dL_protocols_16 : decode cL_protocols 16 = .ok (.ireturn, 1) := by decide +kernel
set_option maxRecDepth 20000 in
theorem ggL_permits_X2_permits : GoodIn wsL_permits wsX2_permits := goodIn_ca (goodIn_r _ [6, 7, 8, 9, 10, 5, 11, 12, 13, 14, 15, 16, 17, 18, 19, 20, 21, 22, 23, 24, 25, 26, 27, 28, 29, 30, 31, 32, 33, 34, 35, 36, 37, 38, 39, 40, 41, 42, 43, 44, 45, 46, 47, 48, 49, 50, 51, 52, 53, 54, 55] (by decide +kernel) (by decide +kernel)) (goodIn_sub (fun _ h => List.mem_cons_of_mem _ (List.mem_append_right _ h)) (by decide +kernel))
set_option maxRecDepth 20000 in
theorem gL_permits_X2_permits : GoodIn wsL_permits (wsV RL 36 RX2 yX2_permits wsX2_permits) := goodIn_app (goodIn_of _ (by decide +kernel)) ggL_permits_X2_permits
theorem dL_permits_0 : decode cL_permits 0 = .ok (.aload_n 2, 1) := by decide +kernel
theorem dL_permits_1 : decode cL_permits 1 = .ok (.iconst 0, 1) := by decide +kernel
theorem dL_permits_2 : decode cL_permits 2 = .ok (.aload_n 0, 1) := by decide +kernel
theorem dL_permits_3 : decode cL_permits 3 = .ok (.iload_n 1, 1) := by decide +kernel
theorem dL_permits_4 : decode cL_permits 4 = .ok (.invokevirtual 36, 3) := by decide +kernel
theorem dL_permits_7 : decode cL_permits 7 = .ok (.ifCond .eq 7, 3) := by decide +kernel
theorem dL_permits_10 : decode cL_permits 10 = .ok (.lconst 1, 1) := by decide +kernel
theorem dL_permits_11 : decode cL_permits 11 = .ok (.goto 4, 3) := by decide +kernel
theorem dL_permits_14 : decode cL_permits 14 = .ok (.lconst 0, 1) := by decide +kernel
theorem dL_permits_15 : decode cL_permits 15 = .ok (.lastore, 1) := by decide +kernel
theorem dL_permits_16 : decode cL_permits 16 = .ok (.goto 6, 3) := by decide +kernel
theorem dL_permits_19 : decode cL_permits 19 = .ok (.astore_n 3, 1) := by decide +kernel
theorem dL_permits_20 : decode cL_permits 20 = .ok (.iconst 1, 1) := by decide +kernel
theorem dL_permits_21 : decode cL_permits 21 = .ok (.ireturn, 1) := by decide +kernel
theorem dL_permits_22 : decode cL_permits 22 = .ok (.iconst 0, 1) := by decide +kernel
theorem dL_permits_23 : decode cL_permits 23 = .ok (.ireturn, 1) := by decide +kernel
set_option maxRecDepth 20000 in
theorem ggL_judge_X2_judge : GoodIn wsL_judge wsX2_judge := goodIn_ca (goodIn_r _ [6, 7, 8, 9, 10, 11, 12, 13, 14, 15, 5, 16, 17, 18, 19, 20, 21, 22, 23, 24, 25, 26, 27, 28, 29, 30, 31, 32, 33, 34, 35, 36, 37, 38, 39, 40, 41, 42, 43, 44, 45, 46, 47, 48, 49, 50, 51, 52, 53, 54, 55, 56, 57, 58, 59, 60, 61, 62, 63, 64, 65, 66, 67, 68, 69, 70, 71, 72, 73, 74, 75, 76, 77, 78, 79, 80, 81, 82] (by decide +kernel) (by decide +kernel)) (goodIn_sub (fun _ h => List.mem_cons_of_mem _ (List.mem_append_right _ h)) (by decide +kernel))
set_option maxRecDepth 20000 in
theorem gL_judge_X2_judge : GoodIn wsL_judge (wsV RL 40 RX2 yX2_judge wsX2_judge) := goodIn_app (goodIn_of _ (by decide +kernel)) ggL_judge_X2_judge
theorem dL_judge_0 : decode cL_judge 0 = .ok (.aload 4, 2) := by decide +kernel
theorem dL_judge_2 : decode cL_judge 2 = .ok (.iconst 0, 1) := by decide +kernel
theorem dL_judge_3 : decode cL_judge 3 = .ok (.aload_n 0, 1) := by decide +kernel
theorem dL_judge_4 : decode cL_judge 4 = .ok (.iload_n 1, 1) := by decide +kernel
theorem dL_judge_5 : decode cL_judge 5 = .ok (.iload_n 2, 1) := by decide +kernel
theorem dL_judge_6 : decode cL_judge 6 = .ok (.iload_n 3, 1) := by decide +kernel
theorem dL_judge_7 : decode cL_judge 7 = .ok (.invokevirtual 40, 3) := by decide +kernel
theorem dL_judge_10 : decode cL_judge 10 = .ok (.ifCond .eq 7, 3) := by decide +kernel
theorem dL_judge_13 : decode cL_judge 13 = .ok (.lconst 1, 1) := by decide +kernel
theorem dL_judge_14 : decode cL_judge 14 = .ok (.goto 4, 3) := by decide +kernel
theorem dL_judge_17 : decode cL_judge 17 = .ok (.lconst 0, 1) := by decide +kernel
theorem dL_judge_18 : decode cL_judge 18 = .ok (.lastore, 1) := by decide +kernel
theorem dL_judge_19 : decode cL_judge 19 = .ok (.goto 7, 3) := by decide +kernel
theorem dL_judge_22 : decode cL_judge 22 = .ok (.astore 5, 2) := by decide +kernel
theorem dL_judge_24 : decode cL_judge 24 = .ok (.iconst 1, 1) := by decide +kernel
theorem dL_judge_25 : decode cL_judge 25 = .ok (.ireturn, 1) := by decide +kernel
theorem dL_judge_26 : decode cL_judge 26 = .ok (.iconst 0, 1) := by decide +kernel
theorem dL_judge_27 : decode cL_judge 27 = .ok (.ireturn, 1) := by decide +kernel
set_option maxRecDepth 20000 in
theorem ggL_decider_X2_decider : GoodIn wsL_decider wsX2_decider := goodIn_ca (goodIn_ca (goodIn_r _ [7, 8, 9, 10, 11, 12, 6, 13, 14, 15, 16, 17, 18, 19, 20, 21, 22, 23, 24, 25, 26, 27, 28, 29, 30, 31, 32, 33, 34, 35, 36, 37, 38, 39, 40, 41, 42, 43, 44, 45, 46, 47, 48, 49, 50, 51, 52, 53, 54, 55, 56, 57, 58, 59, 60, 61, 62, 63, 64, 65, 66, 67, 68, 69, 70, 71, 72, 73, 74, 75, 76, 77, 78, 79, 80] (by decide +kernel) (by decide +kernel)) (goodIn_sub (fun _ h => List.mem_cons_of_mem _ (List.mem_append_left _ (List.mem_append_right _ h))) (by decide +kernel))) (goodIn_sub (fun _ h => List.mem_cons_of_mem _ (List.mem_append_right _ h)) (by decide +kernel))
set_option maxRecDepth 20000 in
theorem gL_decider_X2_decider : GoodIn wsL_decider (wsV RL 44 RX2 yX2_decider wsX2_decider) := goodIn_app (goodIn_of _ (by decide +kernel)) ggL_decider_X2_decider
theorem dL_decider_0 : decode cL_decider 0 = .ok (.aload 4, 2) := by decide +kernel
theorem dL_decider_2 : decode cL_decider 2 = .ok (.iconst 0, 1) := by decide +kernel
theorem dL_decider_3 : decode cL_decider 3 = .ok (.aload_n 0, 1) := by decide +kernel
theorem dL_decider_4 : decode cL_decider 4 = .ok (.iload_n 1, 1) := by decide +kernel
theorem dL_decider_5 : decode cL_decider 5 = .ok (.iload_n 2, 1) := by decide +kernel
theorem dL_decider_6 : decode cL_decider 6 = .ok (.iload_n 3, 1) := by decide +kernel
theorem dL_decider_7 : decode cL_decider 7 = .ok (.invokevirtual 44, 3) := by decide +kernel
theorem dL_decider_10 : decode cL_decider 10 = .ok (.i2l, 1) := by decide +kernel
theorem dL_decider_11 : decode cL_decider 11 = .ok (.lastore, 1) := by decide +kernel
theorem dL_decider_12 : decode cL_decider 12 = .ok (.goto 11, 3) := by decide +kernel
theorem dL_decider_15 : decode cL_decider 15 = .ok (.astore 5, 2) := by decide +kernel
theorem dL_decider_17 : decode cL_decider 17 = .ok (.iconst 1, 1) := by decide +kernel
theorem dL_decider_18 : decode cL_decider 18 = .ok (.ireturn, 1) := by decide +kernel
theorem dL_decider_19 : decode cL_decider 19 = .ok (.astore 5, 2) := by decide +kernel
theorem dL_decider_21 : decode cL_decider 21 = .ok (.iconst 2, 1) := by decide +kernel
theorem dL_decider_22 : decode cL_decider 22 = .ok (.ireturn, 1) := by decide +kernel
theorem dL_decider_23 : decode cL_decider 23 = .ok (.iconst 0, 1) := by decide +kernel
theorem dL_decider_24 : decode cL_decider 24 = .ok (.ireturn, 1) := by decide +kernel
set_option maxRecDepth 20000 in
theorem ggL_hits_X2_hits : GoodIn wsL_hits wsX2_hits := goodIn_ca (goodIn_r _ [6, 7, 8, 9, 10, 5, 11, 12, 13, 14, 15, 16, 17, 18, 19, 20, 21, 22, 23, 24, 25, 26, 27, 28, 29, 30, 31, 32, 33, 34, 35, 36, 37, 38, 39, 40, 41, 42, 43, 44, 45, 46, 47, 48, 49, 50, 51, 52, 53, 54, 55] (by decide +kernel) (by decide +kernel)) (goodIn_sub (fun _ h => List.mem_cons_of_mem _ (List.mem_append_right _ h)) (by decide +kernel))
set_option maxRecDepth 20000 in
theorem gL_hits_X2_hits : GoodIn wsL_hits (wsV RL 50 RX2 yX2_hits wsX2_hits) := goodIn_app (goodIn_of _ (by decide +kernel)) ggL_hits_X2_hits
theorem dL_hits_0 : decode cL_hits 0 = .ok (.aload_n 2, 1) := by decide +kernel
theorem dL_hits_1 : decode cL_hits 1 = .ok (.iconst 0, 1) := by decide +kernel
theorem dL_hits_2 : decode cL_hits 2 = .ok (.aload_n 0, 1) := by decide +kernel
theorem dL_hits_3 : decode cL_hits 3 = .ok (.iload_n 1, 1) := by decide +kernel
theorem dL_hits_4 : decode cL_hits 4 = .ok (.invokevirtual 50, 3) := by decide +kernel
theorem dL_hits_7 : decode cL_hits 7 = .ok (.i2l, 1) := by decide +kernel
theorem dL_hits_8 : decode cL_hits 8 = .ok (.lastore, 1) := by decide +kernel
theorem dL_hits_9 : decode cL_hits 9 = .ok (.goto 6, 3) := by decide +kernel
theorem dL_hits_12 : decode cL_hits 12 = .ok (.astore_n 3, 1) := by decide +kernel
theorem dL_hits_13 : decode cL_hits 13 = .ok (.iconst 1, 1) := by decide +kernel
theorem dL_hits_14 : decode cL_hits 14 = .ok (.ireturn, 1) := by decide +kernel
theorem dL_hits_15 : decode cL_hits 15 = .ok (.iconst 0, 1) := by decide +kernel
theorem dL_hits_16 : decode cL_hits 16 = .ok (.ireturn, 1) := by decide +kernel
set_option maxRecDepth 20000 in
theorem ggL_decides_X2_decides : GoodIn wsL_decides wsX2_decides := goodIn_ca (goodIn_r _ [6, 7, 8, 9, 5, 10, 11, 12, 13, 14, 15, 16, 17, 18, 19, 20, 21, 22, 23, 24, 25, 26, 27, 28, 29, 30, 31, 32, 33, 34, 35, 36, 37, 38, 39, 40, 41, 42, 43, 44, 45, 46, 47, 48, 49, 50, 51, 52, 53, 54, 55, 56, 57, 58, 59, 60, 61, 62, 63, 64, 65, 66, 67, 68, 69, 70, 71, 72, 73, 74, 75, 76, 77, 78, 79, 80, 81, 82, 83, 84, 85, 86, 87, 88, 89, 90, 91, 92, 93, 94, 95] (by decide +kernel) (by decide +kernel)) (goodIn_sub (fun _ h => List.mem_cons_of_mem _ (List.mem_append_right _ h)) (by decide +kernel))
set_option maxRecDepth 20000 in
theorem gL_decides_X2_decides : GoodIn wsL_decides (wsV RL 53 RX2 yX2_decides wsX2_decides) := goodIn_app (goodIn_of _ (by decide +kernel)) ggL_decides_X2_decides
theorem dL_decides_0 : decode cL_decides 0 = .ok (.aload_n 2, 1) := by decide +kernel
theorem dL_decides_1 : decode cL_decides 1 = .ok (.iconst 0, 1) := by decide +kernel
theorem dL_decides_2 : decode cL_decides 2 = .ok (.aload_n 0, 1) := by decide +kernel
theorem dL_decides_3 : decode cL_decides 3 = .ok (.iload_n 1, 1) := by decide +kernel
theorem dL_decides_4 : decode cL_decides 4 = .ok (.invokevirtual 53, 3) := by decide +kernel
theorem dL_decides_7 : decode cL_decides 7 = .ok (.i2l, 1) := by decide +kernel
theorem dL_decides_8 : decode cL_decides 8 = .ok (.lastore, 1) := by decide +kernel
theorem dL_decides_9 : decode cL_decides 9 = .ok (.goto 6, 3) := by decide +kernel
theorem dL_decides_12 : decode cL_decides 12 = .ok (.astore_n 3, 1) := by decide +kernel
theorem dL_decides_13 : decode cL_decides 13 = .ok (.iconst 1, 1) := by decide +kernel
theorem dL_decides_14 : decode cL_decides 14 = .ok (.ireturn, 1) := by decide +kernel
theorem dL_decides_15 : decode cL_decides 15 = .ok (.iconst 0, 1) := by decide +kernel
theorem dL_decides_16 : decode cL_decides 16 = .ok (.ireturn, 1) := by decide +kernel
set_option maxRecDepth 20000 in
theorem ggL_overlap_X2_overlap : GoodIn wsL_overlap wsX2_overlap := goodIn_ca (goodIn_r _ [6, 7, 8, 9, 5, 10, 11, 12, 13, 14, 15, 16, 17, 18, 19, 20, 21, 22, 23, 24, 25, 26, 27, 28, 29, 30, 31, 32, 33, 34, 35, 36, 37, 38, 39, 40, 41, 42, 43, 44, 45, 46, 47, 48, 49, 50, 51, 52, 53, 54, 55, 56, 57, 58, 59, 60, 61, 62, 63, 64, 65, 66, 67, 68, 69, 70, 71, 72, 73, 74, 75, 76, 77, 78, 79, 80, 81, 82, 83, 84, 85, 86] (by decide +kernel) (by decide +kernel)) (goodIn_sub (fun _ h => List.mem_cons_of_mem _ (List.mem_append_right _ h)) (by decide +kernel))
set_option maxRecDepth 20000 in
theorem gL_overlap_X2_overlap : GoodIn wsL_overlap (wsV RL 56 RX2 yX2_overlap wsX2_overlap) := goodIn_app (goodIn_of _ (by decide +kernel)) ggL_overlap_X2_overlap
theorem dL_overlap_0 : decode cL_overlap 0 = .ok (.aload_n 3, 1) := by decide +kernel
theorem dL_overlap_1 : decode cL_overlap 1 = .ok (.iconst 0, 1) := by decide +kernel
theorem dL_overlap_2 : decode cL_overlap 2 = .ok (.aload_n 0, 1) := by decide +kernel
theorem dL_overlap_3 : decode cL_overlap 3 = .ok (.iload_n 1, 1) := by decide +kernel
theorem dL_overlap_4 : decode cL_overlap 4 = .ok (.iload_n 2, 1) := by decide +kernel
theorem dL_overlap_5 : decode cL_overlap 5 = .ok (.invokevirtual 56, 3) := by decide +kernel
theorem dL_overlap_8 : decode cL_overlap 8 = .ok (.i2l, 1) := by decide +kernel
theorem dL_overlap_9 : decode cL_overlap 9 = .ok (.lastore, 1) := by decide +kernel
theorem dL_overlap_10 : decode cL_overlap 10 = .ok (.goto 7, 3) := by decide +kernel
theorem dL_overlap_13 : decode cL_overlap 13 = .ok (.astore 4, 2) := by decide +kernel
theorem dL_overlap_15 : decode cL_overlap 15 = .ok (.iconst 1, 1) := by decide +kernel
theorem dL_overlap_16 : decode cL_overlap 16 = .ok (.ireturn, 1) := by decide +kernel
theorem dL_overlap_17 : decode cL_overlap 17 = .ok (.iconst 0, 1) := by decide +kernel
theorem dL_overlap_18 : decode cL_overlap 18 = .ok (.ireturn, 1) := by decide +kernel
set_option maxRecDepth 20000 in
theorem ggL_isShadowed_X2_isShadowed : GoodIn wsL_isShadowed wsX2_isShadowed := goodIn_ca (goodIn_r _ [6, 7, 8, 9, 5, 10, 11, 12, 13, 14, 15, 16, 17, 18, 19, 20, 21, 22, 23, 24, 25, 26, 27, 28, 29, 30, 31, 32, 33, 34, 35, 36, 37, 38, 39, 40, 41, 42, 43, 44, 45, 46, 47, 48, 49, 50, 51, 52, 53, 54, 55, 56, 57, 58, 59, 60, 61, 62, 63, 64, 65, 66, 67, 68, 69, 70, 71, 72, 73, 74, 75, 76, 77, 78, 79, 80, 81, 82, 83, 84, 85, 86, 87, 88, 89, 90, 91, 92, 93, 94, 95] (by decide +kernel) (by decide +kernel)) (goodIn_sub (fun _ h => List.mem_cons_of_mem _ (List.mem_append_right _ h)) (by decide +kernel))
set_option maxRecDepth 20000 in
theorem gL_isShadowed_X2_isShadowed : GoodIn wsL_isShadowed (wsV RL 59 RX2 yX2_isShadowed wsX2_isShadowed) := goodIn_app (goodIn_of _ (by decide +kernel)) ggL_isShadowed_X2_isShadowed
theorem dL_isShadowed_0 : decode cL_isShadowed 0 = .ok (.aload_n 2, 1) := by decide +kernel
theorem dL_isShadowed_1 : decode cL_isShadowed 1 = .ok (.iconst 0, 1) := by decide +kernel
theorem dL_isShadowed_2 : decode cL_isShadowed 2 = .ok (.aload_n 0, 1) := by decide +kernel
theorem dL_isShadowed_3 : decode cL_isShadowed 3 = .ok (.iload_n 1, 1) := by decide +kernel
theorem dL_isShadowed_4 : decode cL_isShadowed 4 = .ok (.invokevirtual 59, 3) := by decide +kernel
theorem dL_isShadowed_7 : decode cL_isShadowed 7 = .ok (.ifCond .eq 7, 3) := by decide +kernel
theorem dL_isShadowed_10 : decode cL_isShadowed 10 = .ok (.lconst 1, 1) := by decide +kernel
theorem dL_isShadowed_11 : decode cL_isShadowed 11 = .ok (.goto 4, 3) := by decide +kernel
theorem dL_isShadowed_14 : decode cL_isShadowed 14 = .ok (.lconst 0, 1) := by decide +kernel
theorem dL_isShadowed_15 : decode cL_isShadowed 15 = .ok (.lastore, 1) := by decide +kernel
theorem dL_isShadowed_16 : decode cL_isShadowed 16 = .ok (.goto 6, 3) := by decide +kernel
theorem dL_isShadowed_19 : decode cL_isShadowed 19 = .ok (.astore_n 3, 1) := by decide +kernel
theorem dL_isShadowed_20 : decode cL_isShadowed 20 = .ok (.iconst 1, 1) := by decide +kernel
theorem dL_isShadowed_21 : decode cL_isShadowed 21 = .ok (.ireturn, 1) := by decide +kernel
theorem dL_isShadowed_22 : decode cL_isShadowed 22 = .ok (.iconst 0, 1) := by decide +kernel
theorem dL_isShadowed_23 : decode cL_isShadowed 23 = .ok (.ireturn, 1) := by decide +kernel
set_option maxRecDepth 20000 in
theorem ggL_shadowedBy_X2_shadowedBy : GoodIn wsL_shadowedBy wsX2_shadowedBy := goodIn_ca (goodIn_ca (goodIn_r _ [7, 8, 9, 10, 11, 12, 13, 14, 6, 15, 16, 17, 18, 19, 20, 21, 22, 23, 24, 25, 26, 27, 28, 29, 30, 31, 32, 33, 34, 35, 36, 37, 38, 39, 40, 41, 42, 43, 44, 45, 46, 47, 48, 49, 50, 51, 52, 53, 54, 55, 56, 57, 58, 59, 60, 61, 62, 63, 64, 65, 66, 67, 68, 69, 70, 71, 72, 73, 74, 75] (by decide +kernel) (by decide +kernel)) (goodIn_sub (fun _ h => List.mem_cons_of_mem _ (List.mem_append_left _ (List.mem_append_right _ h))) (by decide +kernel))) (goodIn_sub (fun _ h => List.mem_cons_of_mem _ (List.mem_append_right _ h)) (by decide +kernel))
set_option maxRecDepth 20000 in
theorem gL_shadowedBy_X2_shadowedBy : GoodIn wsL_shadowedBy (wsV RL 62 RX2 yX2_shadowedBy wsX2_shadowedBy) := goodIn_app (goodIn_of _ (by decide +kernel)) ggL_shadowedBy_X2_shadowedBy
theorem dL_shadowedBy_0 : decode cL_shadowedBy 0 = .ok (.aload_n 2, 1) := by decide +kernel
theorem dL_shadowedBy_1 : decode cL_shadowedBy 1 = .ok (.iconst 0, 1) := by decide +kernel
theorem dL_shadowedBy_2 : decode cL_shadowedBy 2 = .ok (.aload_n 0, 1) := by decide +kernel
theorem dL_shadowedBy_3 : decode cL_shadowedBy 3 = .ok (.iload_n 1, 1) := by decide +kernel
theorem dL_shadowedBy_4 : decode cL_shadowedBy 4 = .ok (.invokevirtual 62, 3) := by decide +kernel
theorem dL_shadowedBy_7 : decode cL_shadowedBy 7 = .ok (.i2l, 1) := by decide +kernel
theorem dL_shadowedBy_8 : decode cL_shadowedBy 8 = .ok (.lastore, 1) := by decide +kernel
theorem dL_shadowedBy_9 : decode cL_shadowedBy 9 = .ok (.goto 9, 3) := by decide +kernel
theorem dL_shadowedBy_12 : decode cL_shadowedBy 12 = .ok (.astore_n 3, 1) := by decide +kernel
theorem dL_shadowedBy_13 : decode cL_shadowedBy 13 = .ok (.iconst 1, 1) := by decide +kernel
theorem dL_shadowedBy_14 : decode cL_shadowedBy 14 = .ok (.ireturn, 1) := by decide +kernel
theorem dL_shadowedBy_15 : decode cL_shadowedBy 15 = .ok (.astore_n 3, 1) := by decide +kernel
theorem dL_shadowedBy_16 : decode cL_shadowedBy 16 = .ok (.iconst 2, 1) := by decide +kernel
theorem dL_shadowedBy_17 : decode cL_shadowedBy 17 = .ok (.ireturn, 1) := by decide +kernel
theorem dL_shadowedBy_18 : decode cL_shadowedBy 18 = .ok (.iconst 0, 1) := by decide +kernel
theorem dL_shadowedBy_19 : decode cL_shadowedBy 19 = .ok (.ireturn, 1) := by decide +kernel
set_option maxRecDepth 20000 in
theorem ggL_isRedundant_X2_isRedundant : GoodIn wsL_isRedundant wsX2_isRedundant := goodIn_ca (goodIn_r _ [6, 7, 8, 9, 5, 10, 11, 12, 13, 14, 15, 16, 17, 18, 19, 20, 21, 22, 23, 24, 25, 26, 27, 28, 29, 30, 31, 32, 33, 34, 35, 36, 37, 38, 39, 40, 41, 42, 43, 44, 45, 46, 47, 48, 49, 50, 51, 52, 53, 54, 55, 56, 57, 58, 59, 60, 61, 62, 63, 64, 65, 66, 67, 68, 69, 70, 71, 72, 73, 74, 75, 76, 77, 78, 79, 80, 81, 82, 83, 84, 85, 86, 87, 88, 89] (by decide +kernel) (by decide +kernel)) (goodIn_sub (fun _ h => List.mem_cons_of_mem _ (List.mem_append_right _ h)) (by decide +kernel))
set_option maxRecDepth 20000 in
theorem gL_isRedundant_X2_isRedundant : GoodIn wsL_isRedundant (wsV RL 65 RX2 yX2_isRedundant wsX2_isRedundant) := goodIn_app (goodIn_of _ (by decide +kernel)) ggL_isRedundant_X2_isRedundant
theorem dL_isRedundant_0 : decode cL_isRedundant 0 = .ok (.aload_n 2, 1) := by decide +kernel
theorem dL_isRedundant_1 : decode cL_isRedundant 1 = .ok (.iconst 0, 1) := by decide +kernel
theorem dL_isRedundant_2 : decode cL_isRedundant 2 = .ok (.aload_n 0, 1) := by decide +kernel
theorem dL_isRedundant_3 : decode cL_isRedundant 3 = .ok (.iload_n 1, 1) := by decide +kernel
theorem dL_isRedundant_4 : decode cL_isRedundant 4 = .ok (.invokevirtual 65, 3) := by decide +kernel
theorem dL_isRedundant_7 : decode cL_isRedundant 7 = .ok (.ifCond .eq 7, 3) := by decide +kernel
theorem dL_isRedundant_10 : decode cL_isRedundant 10 = .ok (.lconst 1, 1) := by decide +kernel
theorem dL_isRedundant_11 : decode cL_isRedundant 11 = .ok (.goto 4, 3) := by decide +kernel
theorem dL_isRedundant_14 : decode cL_isRedundant 14 = .ok (.lconst 0, 1) := by decide +kernel
theorem dL_isRedundant_15 : decode cL_isRedundant 15 = .ok (.lastore, 1) := by decide +kernel
theorem dL_isRedundant_16 : decode cL_isRedundant 16 = .ok (.goto 6, 3) := by decide +kernel
theorem dL_isRedundant_19 : decode cL_isRedundant 19 = .ok (.astore_n 3, 1) := by decide +kernel
theorem dL_isRedundant_20 : decode cL_isRedundant 20 = .ok (.iconst 1, 1) := by decide +kernel
theorem dL_isRedundant_21 : decode cL_isRedundant 21 = .ok (.ireturn, 1) := by decide +kernel
theorem dL_isRedundant_22 : decode cL_isRedundant 22 = .ok (.iconst 0, 1) := by decide +kernel
theorem dL_isRedundant_23 : decode cL_isRedundant 23 = .ok (.ireturn, 1) := by decide +kernel
set_option maxRecDepth 20000 in
theorem ggL_canMerge_X2_canMerge : GoodIn wsL_canMerge wsX2_canMerge := goodIn_ca (goodIn_r _ [6, 7, 8, 9, 10, 11, 12, 13, 14, 15, 16, 17, 18, 19, 20, 21, 22, 23, 24, 25, 26, 27, 28, 29, 30, 31, 32, 33, 34, 35, 36, 37, 38, 39, 40, 41, 42, 43, 44, 45, 46, 47, 48, 49, 50, 51, 52, 53, 54, 55, 56, 57, 58, 59, 60, 61, 62, 63, 64, 65, 66, 67, 68, 69, 70, 71, 72, 73] (by decide +kernel) (by decide +kernel)) (goodIn_sub (fun _ h => List.mem_cons_of_mem _ (List.mem_append_right _ h)) (by decide +kernel))
set_option maxRecDepth 20000 in
theorem gL_canMerge_X2_canMerge : GoodIn wsL_canMerge (wsV RL 68 RX2 yX2_canMerge wsX2_canMerge) := goodIn_app (goodIn_of _ (by decide +kernel)) ggL_canMerge_X2_canMerge
theorem dL_canMerge_0 : decode cL_canMerge 0 = .ok (.aload_n 2, 1) := by decide +kernel
theorem dL_canMerge_1 : decode cL_canMerge 1 = .ok (.iconst 0, 1) := by decide +kernel
theorem dL_canMerge_2 : decode cL_canMerge 2 = .ok (.aload_n 0, 1) := by decide +kernel
theorem dL_canMerge_3 : decode cL_canMerge 3 = .ok (.iload_n 1, 1) := by decide +kernel
theorem dL_canMerge_4 : decode cL_canMerge 4 = .ok (.invokevirtual 68, 3) := by decide +kernel
theorem dL_canMerge_7 : decode cL_canMerge 7 = .ok (.ifCond .eq 7, 3) := by decide +kernel
theorem dL_canMerge_10 : decode cL_canMerge 10 = .ok (.lconst 1, 1) := by decide +kernel
theorem dL_canMerge_11 : decode cL_canMerge 11 = .ok (.goto 4, 3) := by decide +kernel
theorem dL_canMerge_14 : decode cL_canMerge 14 = .ok (.lconst 0, 1) := by decide +kernel
theorem dL_canMerge_15 : decode cL_canMerge 15 = .ok (.lastore, 1) := by decide +kernel
theorem dL_canMerge_16 : decode cL_canMerge 16 = .ok (.goto 6, 3) := by decide +kernel
theorem dL_canMerge_19 : decode cL_canMerge 19 = .ok (.astore_n 3, 1) := by decide +kernel
theorem dL_canMerge_20 : decode cL_canMerge 20 = .ok (.iconst 1, 1) := by decide +kernel
theorem dL_canMerge_21 : decode cL_canMerge 21 = .ok (.ireturn, 1) := by decide +kernel
theorem dL_canMerge_22 : decode cL_canMerge 22 = .ok (.iconst 0, 1) := by decide +kernel
theorem dL_canMerge_23 : decode cL_canMerge 23 = .ok (.ireturn, 1) := by decide +kernel
set_option maxRecDepth 20000 in
theorem ggL_entries_X2_entries : GoodIn wsL_entries wsX2_entries := goodIn_ca (goodIn_r _ [6, 7, 8, 9, 5, 10, 11, 12, 13, 14, 15, 16, 17, 18, 19, 20, 21, 22, 23, 24, 25, 26, 27, 28, 29, 30, 31, 32, 33, 34, 35, 36, 37, 38, 39, 40, 41, 42, 43, 44, 45, 46, 47, 48, 49, 50, 51, 52, 53, 54, 55, 56, 57, 58, 59, 60, 61, 62, 63, 64, 65, 66, 67, 68, 69, 70, 71, 72, 73, 74, 75, 76, 77, 78, 79, 80] (by decide +kernel) (by decide +kernel)) (goodIn_sub (fun _ h => List.mem_cons_of_mem _ (List.mem_append_right _ h)) (by decide +kernel))
set_option maxRecDepth 20000 in
theorem gL_entries_X2_entries : GoodIn wsL_entries (wsV RL 71 RX2 yX2_entries wsX2_entries) := goodIn_app (goodIn_of _ (by decide +kernel)) ggL_entries_X2_entries
theorem dL_entries_0 : decode cL_entries 0 = .ok (.aload_n 2, 1) := by decide +kernel
theorem dL_entries_1 : decode cL_entries 1 = .ok (.iconst 0, 1) := by decide +kernel
theorem dL_entries_2 : decode cL_entries 2 = .ok (.aload_n 0, 1) := by decide +kernel
theorem dL_entries_3 : decode cL_entries 3 = .ok (.iload_n 1, 1) := by decide +kernel
theorem dL_entries_4 : decode cL_entries 4 = .ok (.invokevirtual 71, 3) := by decide +kernel
theorem dL_entries_7 : decode cL_entries 7 = .ok (.i2l, 1) := by decide +kernel
theorem dL_entries_8 : decode cL_entries 8 = .ok (.lastore, 1) := by decide +kernel
theorem dL_entries_9 : decode cL_entries 9 = .ok (.goto 6, 3) := by decide +kernel
theorem dL_entries_12 : decode cL_entries 12 = .ok (.astore_n 3, 1) := by decide +kernel
theorem dL_entries_13 : decode cL_entries 13 = .ok (.iconst 1, 1) := by decide +kernel
theorem dL_entries_14 : decode cL_entries 14 = .ok (.ireturn, 1) := by decide +kernel
theorem dL_entries_15 : decode cL_entries 15 = .ok (.iconst 0, 1) := by decide +kernel
theorem dL_entries_16 : decode cL_entries 16 = .ok (.ireturn, 1) := by decide +kernel
set_option maxRecDepth 20000 in
theorem ggL_entryValue_X2_entryValue : GoodIn wsL_entryValue wsX2_entryValue := goodIn_ca (goodIn_r _ [6, 7, 8, 9, 5, 10, 11, 12, 13, 14, 15, 16, 17, 18, 19, 20, 21, 22, 23, 24, 25, 26, 27, 28, 29, 30, 31, 32, 33, 34, 35, 36, 37, 38, 39, 40, 41, 42, 43, 44, 45, 46, 47, 48, 49, 50, 51, 52, 53, 54, 55, 56, 57, 58, 59, 60, 61, 62, 63, 64, 65, 66, 67, 68, 69, 70, 71, 72, 73, 74, 75, 76, 77, 78, 79] (by decide +kernel) (by decide +kernel)) (goodIn_sub (fun _ h => List.mem_cons_of_mem _ (List.mem_append_right _ h)) (by decide +kernel))
set_option maxRecDepth 20000 in
theorem gL_entryValue_X2_entryValue : GoodIn wsL_entryValue (wsV RL 74 RX2 yX2_entryValue wsX2_entryValue) := goodIn_app (goodIn_of _ (by decide +kernel)) ggL_entryValue_X2_entryValue
theorem dL_entryValue_0 : decode cL_entryValue 0 = .ok (.aload_n 3, 1) := by decide +kernel
theorem dL_entryValue_1 : decode cL_entryValue 1 = .ok (.iconst 0, 1) := by decide +kernel
theorem dL_entryValue_2 : decode cL_entryValue 2 = .ok (.aload_n 0, 1) := by decide +kernel
theorem dL_entryValue_3 : decode cL_entryValue 3 = .ok (.iload_n 1, 1) := by decide +kernel
theorem dL_entryValue_4 : decode cL_entryValue 4 = .ok (.iload_n 2, 1) := by decide +kernel
theorem dL_entryValue_5 : decode cL_entryValue 5 = .ok (.invokevirtual 74, 3) := by decide +kernel
theorem dL_entryValue_8 : decode cL_entryValue 8 = .ok (.i2l, 1) := by decide +kernel
theorem dL_entryValue_9 : decode cL_entryValue 9 = .ok (.lastore, 1) := by decide +kernel
theorem dL_entryValue_10 : decode cL_entryValue 10 = .ok (.goto 7, 3) := by decide +kernel
theorem dL_entryValue_13 : decode cL_entryValue 13 = .ok (.astore 4, 2) := by decide +kernel
theorem dL_entryValue_15 : decode cL_entryValue 15 = .ok (.iconst 1, 1) := by decide +kernel
theorem dL_entryValue_16 : decode cL_entryValue 16 = .ok (.ireturn, 1) := by decide +kernel
theorem dL_entryValue_17 : decode cL_entryValue 17 = .ok (.iconst 0, 1) := by decide +kernel
theorem dL_entryValue_18 : decode cL_entryValue 18 = .ok (.ireturn, 1) := by decide +kernel
set_option maxRecDepth 20000 in
theorem ggL_entryMask_X2_entryMask : GoodIn wsL_entryMask wsX2_entryMask := goodIn_ca (goodIn_r _ [6, 7, 8, 9, 10, 11, 12, 13, 5, 14, 15, 16, 17, 18, 19, 20, 21, 22, 23, 24, 25, 26, 27, 28, 29, 30, 31, 32, 33, 34, 35, 36, 37, 38, 39, 40, 41, 42, 43, 44, 45, 46, 47, 48, 49, 50, 51, 52, 53, 54, 55, 56, 57, 58, 59, 60, 61, 62, 63, 64, 65, 66, 67, 68, 69, 70, 71, 72, 73, 74, 75, 76, 77, 78, 79, 80, 81, 82] (by decide +kernel) (by decide +kernel)) (goodIn_sub (fun _ h => List.mem_cons_of_mem _ (List.mem_append_right _ h)) (by decide +kernel))
set_option maxRecDepth 20000 in
theorem gL_entryMask_X2_entryMask : GoodIn wsL_entryMask (wsV RL 77 RX2 yX2_entryMask wsX2_entryMask) := goodIn_app (goodIn_of _ (by decide +kernel)) ggL_entryMask_X2_entryMask
theorem dL_entryMask_0 : decode cL_entryMask 0 = .ok (.aload_n 3, 1) := by decide +kernel
theorem dL_entryMask_1 : decode cL_entryMask 1 = .ok (.iconst 0, 1) := by decide +kernel
theorem dL_entryMask_2 : decode cL_entryMask 2 = .ok (.aload_n 0, 1) := by decide +kernel
theorem dL_entryMask_3 : decode cL_entryMask 3 = .ok (.iload_n 1, 1) := by decide +kernel
theorem dL_entryMask_4 : decode cL_entryMask 4 = .ok (.iload_n 2, 1) := by decide +kernel
theorem dL_entryMask_5 : decode cL_entryMask 5 = .ok (.invokevirtual 77, 3) := by decide +kernel
theorem dL_entryMask_8 : decode cL_entryMask 8 = .ok (.i2l, 1) := by decide +kernel
theorem dL_entryMask_9 : decode cL_entryMask 9 = .ok (.lastore, 1) := by decide +kernel
theorem dL_entryMask_10 : decode cL_entryMask 10 = .ok (.goto 7, 3) := by decide +kernel
theorem dL_entryMask_13 : decode cL_entryMask 13 = .ok (.astore 4, 2) := by decide +kernel
theorem dL_entryMask_15 : decode cL_entryMask 15 = .ok (.iconst 1, 1) := by decide +kernel
theorem dL_entryMask_16 : decode cL_entryMask 16 = .ok (.ireturn, 1) := by decide +kernel
theorem dL_entryMask_17 : decode cL_entryMask 17 = .ok (.iconst 0, 1) := by decide +kernel
theorem dL_entryMask_18 : decode cL_entryMask 18 = .ok (.ireturn, 1) := by decide +kernel
