theorem dX2_shadowedBy_50 : decode cX2_shadowedBy 50 = .ok (.new 118, 3) := by decide +kernel
theorem dX2_shadowedBy_53 : decode cX2_shadowedBy 53 = .ok (.dup, 1) := by decide +kernel
theorem dX2_shadowedBy_54 : decode cX2_shadowedBy 54 = .ok (.ldc 135, 2) := by decide +kernel
theorem dX2_shadowedBy_56 : decode cX2_shadowedBy 56 = .ok (.invokespecial 122, 3) := by decide +kernel
theorem dX2_shadowedBy_59 : decode cX2_shadowedBy 59 = .ok (.athrow, 1) := by decide +kernel
set_option maxRecDepth 20000 in
theorem ggX2_isRedundant_X2_ruleAt : GoodIn wsX2_isRedundant wsX2_ruleAt := goodIn_ca (goodIn_r _ [5, 6, 7, 8, 9, 10, 4, 11, 12, 13, 14, 15, 16, 17, 18, 19, 20, 21, 22, 23, 24, 25, 26, 27, 28, 29, 30, 31, 32, 33, 34, 35, 36, 69, 70, 71, 72, 73, 74, 75, 76] (by decide +kernel) (by decide +kernel)) (goodIn_sub (fun _ h => List.mem_cons_of_mem _ (List.mem_append_right _ h)) (by decide +kernel))
set_option maxRecDepth 20000 in
theorem gX2_isRedundant_X2_ruleAt : GoodIn wsX2_isRedundant (wsV RX2 70 RX2 yX2_ruleAt wsX2_ruleAt) := goodIn_app (goodIn_of _ (by decide +kernel)) ggX2_isRedundant_X2_ruleAt
set_option maxRecDepth 20000 in
theorem ggX2_isRedundant_X2_isNeedless : GoodIn wsX2_isRedundant wsX2_isNeedless := goodIn_r _ [40, 41, 42, 43, 44, 45, 46, 4, 47, 48, 49, 50, 51, 6, 7, 52, 53, 54, 14, 15, 16, 17, 18, 19, 20, 21, 22, 23, 24, 25, 26, 27, 28, 29, 30, 31, 32, 33, 34, 35, 36, 55, 56, 57, 58, 59, 60, 61, 62, 63, 64, 65, 66, 67, 68, 77, 78, 79, 80, 81, 82, 83, 84, 69, 70, 71, 72, 73, 74, 75, 76] (by decide +kernel) (by decide +kernel)
set_option maxRecDepth 20000 in
theorem gX2_isRedundant_X2_isNeedless : GoodIn wsX2_isRedundant (wsV RX2 137 RX2 yX2_isNeedless wsX2_isNeedless) := goodIn_app (goodIn_of _ (by decide +kernel)) ggX2_isRedundant_X2_isNeedless
theorem dX2_isRedundant_0 : decode cX2_isRedundant 0 = .ok (.aload_n 0, 1) := by decide +kernel
theorem dX2_isRedundant_1 : decode cX2_isRedundant 1 = .ok (.aload_n 0, 1) := by decide +kernel
theorem dX2_isRedundant_2 : decode cX2_isRedundant 2 = .ok (.iload_n 1, 1) := by decide +kernel
theorem dX2_isRedundant_3 : decode cX2_isRedundant 3 = .ok (.invokevirtual 70, 3) := by decide +kernel
theorem dX2_isRedundant_6 : decode cX2_isRedundant 6 = .ok (.iload_n 1, 1) := by decide +kernel
theorem dX2_isRedundant_7 : decode cX2_isRedundant 7 = .ok (.invokevirtual 137, 3) := by decide +kernel
theorem dX2_isRedundant_10 : decode cX2_isRedundant 10 = .ok (.ireturn, 1) := by decide +kernel
set_option maxRecDepth 20000 in
theorem ggX2_permitted_X2_permittedDestinations : GoodIn wsX2_permitted wsX2_permittedDestinations := goodIn_r _ [5, 6, 7, 8, 9, 10, 11, 12, 13, 14, 15, 16, 17, 18, 19, 20, 21, 22, 23, 24, 25, 26, 27, 28, 29, 30, 31, 32, 33, 34, 35, 36, 37, 38, 39, 40, 41, 42, 43, 44, 45, 46, 47, 48, 4, 49, 57, 58, 59, 60, 61, 62, 63, 64, 65, 66, 67, 68, 69, 70, 71, 72] (by decide +kernel) (by decide +kernel)
set_option maxRecDepth 20000 in
theorem gX2_permitted_X2_permittedDestinations : GoodIn wsX2_permitted (wsV RX2 141 RX2 yX2_permittedDestinations wsX2_permittedDestinations) := goodIn_app (goodIn_of _ (by decide +kernel)) ggX2_permitted_X2_permittedDestinations
set_option maxRecDepth 20000 in
theorem ggX2_permitted_J6_bitCount_0f7a4 : GoodIn wsX2_permitted wsJ6_bitCount_0f7a4 := goodIn_r _ [53, 54, 55, 56] (by decide +kernel) (by decide +kernel)
set_option maxRecDepth 20000 in
theorem gX2_permitted_J6_bitCount_0f7a4 : GoodIn wsX2_permitted (va_wsS RX2 144 yJ6_bitCount_0f7a4 wsJ6_bitCount_0f7a4) := goodIn_app (goodIn_of _ (by decide +kernel)) ggX2_permitted_J6_bitCount_0f7a4
theorem dX2_permitted_0 : decode cX2_permitted 0 = .ok (.iconst 0, 1) := by decide +kernel
theorem dX2_permitted_1 : decode cX2_permitted 1 = .ok (.istore_n 1, 1) := by decide +kernel
theorem dX2_permitted_2 : decode cX2_permitted 2 = .ok (.iconst 0, 1) := by decide +kernel
theorem dX2_permitted_3 : decode cX2_permitted 3 = .ok (.istore_n 2, 1) := by decide +kernel
theorem dX2_permitted_4 : decode cX2_permitted 4 = .ok (.iload_n 2, 1) := by decide +kernel
theorem dX2_permitted_5 : decode cX2_permitted 5 = .ok (.bipush 32, 2) := by decide +kernel
theorem dX2_permitted_7 : decode cX2_permitted 7 = .ok (.if_icmp .ge 35, 3) := by decide +kernel
theorem dX2_permitted_10 : decode cX2_permitted 10 = .ok (.iconst 0, 1) := by decide +kernel
theorem dX2_permitted_11 : decode cX2_permitted 11 = .ok (.istore_n 3, 1) := by decide +kernel
theorem dX2_permitted_12 : decode cX2_permitted 12 = .ok (.iload_n 3, 1) := by decide +kernel
theorem dX2_permitted_13 : decode cX2_permitted 13 = .ok (.iconst 4, 1) := by decide +kernel
theorem dX2_permitted_14 : decode cX2_permitted 14 = .ok (.if_icmp .ge 22, 3) := by decide +kernel
theorem dX2_permitted_17 : decode cX2_permitted 17 = .ok (.iload_n 1, 1) := by decide +kernel
theorem dX2_permitted_18 : decode cX2_permitted 18 = .ok (.aload_n 0, 1) := by decide +kernel
theorem dX2_permitted_19 : decode cX2_permitted 19 = .ok (.iload_n 2, 1) := by decide +kernel
theorem dX2_permitted_20 : decode cX2_permitted 20 = .ok (.iload_n 3, 1) := by decide +kernel
theorem dX2_permitted_21 : decode cX2_permitted 21 = .ok (.iconst (-1), 1) := by decide +kernel
theorem dX2_permitted_22 : decode cX2_permitted 22 = .ok (.invokevirtual 141, 3) := by decide +kernel
theorem dX2_permitted_25 : decode cX2_permitted 25 = .ok (.invokestatic 144, 3) := by decide +kernel
theorem dX2_permitted_28 : decode cX2_permitted 28 = .ok (.iadd, 1) := by decide +kernel
theorem dX2_permitted_29 : decode cX2_permitted 29 = .ok (.istore_n 1, 1) := by decide +kernel
theorem dX2_permitted_30 : decode cX2_permitted 30 = .ok (.iinc 3 1, 3) := by decide +kernel
theorem dX2_permitted_33 : decode cX2_permitted 33 = .ok (.goto (-21), 3) := by decide +kernel
theorem dX2_permitted_36 : decode cX2_permitted 36 = .ok (.iinc 2 1, 3) := by decide +kernel
theorem dX2_permitted_39 : decode cX2_permitted 39 = .ok (.goto (-35), 3) := by decide +kernel
theorem dX2_permitted_42 : decode cX2_permitted 42 = .ok (.iload_n 1, 1) := by decide +kernel
theorem dX2_permitted_43 : decode cX2_permitted 43 = .ok (.ireturn, 1) := by decide +kernel
set_option maxRecDepth 20000 in
theorem ggX2_shorten_Jx4a65c_size_8abf5 : GoodIn wsX2_shorten wsJx4a65c_size_8abf5 := goodIn_r _ [6, 7, 131, 132, 133] (by decide +kernel) (by decide +kernel)
set_option maxRecDepth 20000 in
theorem gX2_shorten_Jx4a65c_size_8abf5 : GoodIn wsX2_shorten (wsV RX2 33 RJx4a65c yJx4a65c_size_8abf5 wsJx4a65c_size_8abf5) := goodIn_app (goodIn_of _ (by decide +kernel)) ggX2_shorten_Jx4a65c_size_8abf5
set_option maxRecDepth 20000 in
theorem ggX2_shorten_X2_dropLastNeedless : GoodIn wsX2_shorten wsX2_dropLastNeedless := goodIn_r _ [12, 1, 13, 2, 3, 4, 5, 6, 7, 14, 15, 16, 17, 18, 19, 20, 21, 22, 23, 24, 25, 26, 27, 28, 29, 30, 31, 32, 33, 11, 34, 35, 36, 37, 38, 39, 40, 41, 42, 43, 44, 45, 46, 47, 48, 49, 50, 51, 52, 53, 54, 55, 56, 57, 58, 59, 60, 61, 62, 63, 64, 65, 66, 67, 68, 69, 70, 71, 72, 73, 74, 75, 76, 126, 127, 128, 129, 130, 131, 132, 133, 134, 135, 136, 137, 138, 139, 140, 141] (by decide +kernel) (by decide +kernel)
set_option maxRecDepth 20000 in
theorem gX2_shorten_X2_dropLastNeedless : GoodIn wsX2_shorten (wsV RX2 158 RX2 yX2_dropLastNeedless wsX2_dropLastNeedless) := goodIn_app (goodIn_of _ (by decide +kernel)) ggX2_shorten_X2_dropLastNeedless
set_option maxRecDepth 20000 in
theorem ggX2_shorten_X2_mergeFirstNeighbours : GoodIn wsX2_shorten wsX2_mergeFirstNeighbours := goodIn_r _ [80, 1, 13, 2, 3, 4, 5, 6, 7, 14, 15, 16, 17, 18, 19, 20, 21, 22, 23, 24, 25, 26, 27, 28, 29, 30, 81, 82, 83, 52, 84, 85, 54, 86, 87, 88, 89, 90, 55, 91, 92, 93, 59, 94, 61, 62, 95, 96, 97, 98, 99, 100, 101, 102, 103, 104, 105, 106, 107, 108, 109, 110, 111, 112, 113, 114, 115, 116, 117, 118, 119, 120, 121, 122, 123, 124, 11, 125, 63, 64, 65, 66, 67, 68, 69, 70, 71, 72, 73, 74, 75, 76, 126, 127, 128, 129, 130, 131, 132, 133, 134, 135, 136, 137, 138, 139, 140, 141] (by decide +kernel) (by decide +kernel)
set_option maxRecDepth 20000 in
theorem gX2_shorten_X2_mergeFirstNeighbours : GoodIn wsX2_shorten (wsV RX2 162 RX2 yX2_mergeFirstNeighbours wsX2_mergeFirstNeighbours) := goodIn_app (goodIn_of _ (by decide +kernel)) ggX2_shorten_X2_mergeFirstNeighbours
theorem dX2_shorten_0 : decode cX2_shorten 0 = .ok (.aload_n 0, 1) := by decide +kernel
theorem dX2_shorten_1 : decode cX2_shorten 1 = .ok (.getfield 10, 3) := by decide +kernel
theorem dX2_shorten_4 : decode cX2_shorten 4 = .ok (.invokevirtual 33, 3) := by decide +kernel
theorem dX2_shorten_7 : decode cX2_shorten 7 = .ok (.istore_n 1, 1) := by decide +kernel
theorem dX2_shorten_8 : decode cX2_shorten 8 = .ok (.iconst 1, 1) := by decide +kernel
theorem dX2_shorten_9 : decode cX2_shorten 9 = .ok (.istore_n 2, 1) := by decide +kernel
theorem dX2_shorten_10 : decode cX2_shorten 10 = .ok (.iconst 0, 1) := by decide +kernel
theorem dX2_shorten_11 : decode cX2_shorten 11 = .ok (.istore_n 3, 1) := by decide +kernel
theorem dX2_shorten_12 : decode cX2_shorten 12 = .ok (.iload_n 3, 1) := by decide +kernel
theorem dX2_shorten_13 : decode cX2_shorten 13 = .ok (.iload_n 1, 1) := by decide +kernel
theorem dX2_shorten_14 : decode cX2_shorten 14 = .ok (.if_icmp .ge 33, 3) := by decide +kernel
theorem dX2_shorten_17 : decode cX2_shorten 17 = .ok (.iload_n 2, 1) := by decide +kernel
theorem dX2_shorten_18 : decode cX2_shorten 18 = .ok (.ifCond .eq 29, 3) := by decide +kernel
theorem dX2_shorten_21 : decode cX2_shorten 21 = .ok (.aload_n 0, 1) := by decide +kernel
theorem dX2_shorten_22 : decode cX2_shorten 22 = .ok (.invokevirtual 158, 3) := by decide +kernel
theorem dX2_shorten_25 : decode cX2_shorten 25 = .ok (.ifCond .ne 10, 3) := by decide +kernel
theorem dX2_shorten_28 : decode cX2_shorten 28 = .ok (.aload_n 0, 1) := by decide +kernel
theorem dX2_shorten_29 : decode cX2_shorten 29 = .ok (.invokevirtual 162, 3) := by decide +kernel
theorem dX2_shorten_32 : decode cX2_shorten 32 = .ok (.ifCond .eq 7, 3) := by decide +kernel
theorem dX2_shorten_35 : decode cX2_shorten 35 = .ok (.iconst 1, 1) := by decide +kernel
theorem dX2_shorten_36 : decode cX2_shorten 36 = .ok (.goto 4, 3) := by decide +kernel
theorem dX2_shorten_39 : decode cX2_shorten 39 = .ok (.iconst 0, 1) := by decide +kernel
theorem dX2_shorten_40 : decode cX2_shorten 40 = .ok (.istore_n 2, 1) := by decide +kernel
theorem dX2_shorten_41 : decode cX2_shorten 41 = .ok (.iinc 3 1, 3) := by decide +kernel
theorem dX2_shorten_44 : decode cX2_shorten 44 = .ok (.goto (-32), 3) := by decide +kernel
theorem dX2_shorten_47 : decode cX2_shorten 47 = .ok (.iload_n 1, 1) := by decide +kernel
theorem dX2_shorten_48 : decode cX2_shorten 48 = .ok (.aload_n 0, 1) := by decide +kernel
theorem dX2_shorten_49 : decode cX2_shorten 49 = .ok (.getfield 10, 3) := by decide +kernel
theorem dX2_shorten_52 : decode cX2_shorten 52 = .ok (.invokevirtual 33, 3) := by decide +kernel
theorem dX2_shorten_55 : decode cX2_shorten 55 = .ok (.isub, 1) := by decide +kernel
theorem dX2_shorten_56 : decode cX2_shorten 56 = .ok (.ireturn, 1) := by decide +kernel
set_option maxRecDepth 20000 in
theorem ggX2_sortByHits_X2_exchangeInOnePass : GoodIn wsX2_sortByHits wsX2_exchangeInOnePass := goodIn_r _ [5, 6, 7, 8, 9, 10, 11, 12, 13, 14, 15, 16, 17, 18, 19, 20, 21, 22, 23, 24, 25, 26, 27, 28, 29, 30, 31, 32, 33, 34, 35, 36, 37, 38, 39, 40, 41, 42, 43, 44, 45, 46, 47, 48, 49, 50, 51, 52, 53, 54, 55, 56, 57, 58, 59, 60, 61, 62, 63, 64, 65, 66, 67, 68, 69, 70, 71, 72, 73, 74, 75, 76, 77, 78, 79, 80, 81, 82, 83, 84, 85] (by decide +kernel) (by decide +kernel)
set_option maxRecDepth 20000 in
theorem gX2_sortByHits_X2_exchangeInOnePass : GoodIn wsX2_sortByHits (wsV RX2 165 RX2 yX2_exchangeInOnePass wsX2_exchangeInOnePass) := goodIn_app (goodIn_of _ (by decide +kernel)) ggX2_sortByHits_X2_exchangeInOnePass
theorem dX2_sortByHits_0 : decode cX2_sortByHits 0 = .ok (.iconst 0, 1) := by decide +kernel
theorem dX2_sortByHits_1 : decode cX2_sortByHits 1 = .ok (.istore_n 1, 1) := by decide +kernel
theorem dX2_sortByHits_2 : decode cX2_sortByHits 2 = .ok (.iconst 0, 1) := by decide +kernel
theorem dX2_sortByHits_3 : decode cX2_sortByHits 3 = .ok (.istore_n 2, 1) := by decide +kernel
theorem dX2_sortByHits_4 : decode cX2_sortByHits 4 = .ok (.iload_n 2, 1) := by decide +kernel
theorem dX2_sortByHits_5 : decode cX2_sortByHits 5 = .ok (.sipush 256, 3) := by decide +kernel
theorem dX2_sortByHits_8 : decode cX2_sortByHits 8 = .ok (.if_icmp .ge 24, 3) := by decide +kernel
theorem dX2_sortByHits_11 : decode cX2_sortByHits 11 = .ok (.aload_n 0, 1) := by decide +kernel
theorem dX2_sortByHits_12 : decode cX2_sortByHits 12 = .ok (.invokevirtual 165, 3) := by decide +kernel
theorem dX2_sortByHits_15 : decode cX2_sortByHits 15 = .ok (.istore_n 3, 1) := by decide +kernel
theorem dX2_sortByHits_16 : decode cX2_sortByHits 16 = .ok (.iload_n 3, 1) := by decide +kernel
theorem dX2_sortByHits_17 : decode cX2_sortByHits 17 = .ok (.ifCond .ne 5, 3) := by decide +kernel
theorem dX2_sortByHits_20 : decode cX2_sortByHits 20 = .ok (.iload_n 1, 1) := by decide +kernel
theorem dX2_sortByHits_21 : decode cX2_sortByHits 21 = .ok (.ireturn, 1) := by decide +kernel
theorem dX2_sortByHits_22 : decode cX2_sortByHits 22 = .ok (.iload_n 1, 1) := by decide +kernel
theorem dX2_sortByHits_23 : decode cX2_sortByHits 23 = .ok (.iload_n 3, 1) := by decide +kernel
theorem dX2_sortByHits_24 : decode cX2_sortByHits 24 = .ok (.iadd, 1) := by decide +kernel
theorem dX2_sortByHits_25 : decode cX2_sortByHits 25 = .ok (.istore_n 1, 1) := by decide +kernel
theorem dX2_sortByHits_26 : decode cX2_sortByHits 26 = .ok (.iinc 2 1, 3) := by decide +kernel
theorem dX2_sortByHits_29 : decode cX2_sortByHits 29 = .ok (.goto (-25), 3) := by decide +kernel
theorem dX2_sortByHits_32 : decode cX2_sortByHits 32 = .ok (.iload_n 1, 1) := by decide +kernel
theorem dX2_sortByHits_33 : decode cX2_sortByHits 33 = .ok (.ireturn, 1) := by decide +kernel
set_option maxRecDepth 20000 in
theorem ggX2_entries_X2_ruleAt : GoodIn wsX2_entries wsX2_ruleAt := goodIn_ca (goodIn_r _ [5, 6, 7, 8, 9, 10, 4, 11, 12, 13, 14, 15, 16, 17, 18, 19, 20, 21, 22, 23, 24, 25, 26, 27, 28, 29, 30, 31, 32, 33, 34, 35, 36, 60, 61, 62, 63, 64, 65, 66, 67] (by decide +kernel) (by decide +kernel)) (goodIn_sub (fun _ h => List.mem_cons_of_mem _ (List.mem_append_right _ h)) (by decide +kernel))
set_option maxRecDepth 20000 in
theorem gX2_entries_X2_ruleAt : GoodIn wsX2_entries (wsV RX2 70 RX2 yX2_ruleAt wsX2_ruleAt) := goodIn_app (goodIn_of _ (by decide +kernel)) ggX2_entries_X2_ruleAt
set_option maxRecDepth 20000 in
theorem ggX2_entries_X2_entryCount : GoodIn wsX2_entries wsX2_entryCount := goodIn_r _ [39, 40, 41, 42, 43, 44, 45, 4, 46, 47, 48, 49, 50, 51, 52, 53, 54, 55, 56, 57, 58, 59, 68, 69, 70, 71, 72, 73, 74, 75] (by decide +kernel) (by decide +kernel)
set_option maxRecDepth 20000 in
theorem gX2_entries_X2_entryCount : GoodIn wsX2_entries (va_wsS RX2 168 yX2_entryCount wsX2_entryCount) := goodIn_app (goodIn_of _ (by decide +kernel)) ggX2_entries_X2_entryCount
theorem dX2_entries_0 : decode cX2_entries 0 = .ok (.aload_n 0, 1) := by decide +kernel
theorem dX2_entries_1 : decode cX2_entries 1 = .ok (.iload_n 1, 1) := by decide +kernel
theorem dX2_entries_2 : decode cX2_entries 2 = .ok (.invokevirtual 70, 3) := by decide +kernel
theorem dX2_entries_5 : decode cX2_entries 5 = .ok (.invokestatic 168, 3) := by decide +kernel
theorem dX2_entries_8 : decode cX2_entries 8 = .ok (.ireturn, 1) := by decide +kernel
set_option maxRecDepth 20000 in
theorem ggX2_entryValue_X2_ruleAt : GoodIn wsX2_entryValue wsX2_ruleAt := goodIn_ca (goodIn_r _ [5, 6, 7, 8, 9, 10, 4, 11, 12, 13, 14, 15, 16, 17, 18, 19, 20, 21, 22, 23, 24, 25, 26, 27, 28, 29, 30, 31, 32, 33, 34, 35, 36, 59, 60, 61, 62, 63, 64, 65, 66] (by decide +kernel) (by decide +kernel)) (goodIn_sub (fun _ h => List.mem_cons_of_mem _ (List.mem_append_right _ h)) (by decide +kernel))
set_option maxRecDepth 20000 in
theorem gX2_entryValue_X2_ruleAt : GoodIn wsX2_entryValue (wsV RX2 70 RX2 yX2_ruleAt wsX2_ruleAt) := goodIn_app (goodIn_of _ (by decide +kernel)) ggX2_entryValue_X2_ruleAt
set_option maxRecDepth 20000 in
theorem ggX2_entryValue_X2_valueOfEntry : GoodIn wsX2_entryValue wsX2_valueOfEntry := goodIn_ca (goodIn_r _ [39, 12, 13, 40, 41, 42, 43, 44, 45, 4, 46, 47, 48, 49, 50, 51, 52, 53, 54, 55, 56, 57, 58, 67, 68, 69, 70, 71, 72, 73, 74] (by decide +kernel) (by decide +kernel)) (goodIn_sub (fun _ h => List.mem_cons_of_mem _ (List.mem_append_right _ h)) (by decide +kernel))
set_option maxRecDepth 20000 in
theorem gX2_entryValue_X2_valueOfEntry : GoodIn wsX2_entryValue (va_wsS RX2 171 yX2_valueOfEntry wsX2_valueOfEntry) := goodIn_app (goodIn_of _ (by decide +kernel)) ggX2_entryValue_X2_valueOfEntry
theorem dX2_entryValue_0 : decode cX2_entryValue 0 = .ok (.aload_n 0, 1) := by decide +kernel
theorem dX2_entryValue_1 : decode cX2_entryValue 1 = .ok (.iload_n 1, 1) := by decide +kernel
theorem dX2_entryValue_2 : decode cX2_entryValue 2 = .ok (.invokevirtual 70, 3) := by decide +kernel
theorem dX2_entryValue_5 : decode cX2_entryValue 5 = .ok (.iload_n 2, 1) := by decide +kernel
theorem dX2_entryValue_6 : decode cX2_entryValue 6 = .ok (.invokestatic 171, 3) := by decide +kernel
theorem dX2_entryValue_9 : decode cX2_entryValue 9 = .ok (.ireturn, 1) := by decide +kernel
set_option maxRecDepth 20000 in
theorem ggX2_entryMask_X2_ruleAt : GoodIn wsX2_entryMask wsX2_ruleAt := goodIn_ca (goodIn_r _ [9, 10, 11, 12, 13, 14, 8, 15, 16, 17, 18, 19, 20, 21, 22, 23, 24, 25, 26, 27, 28, 29, 30, 31, 32, 33, 34, 35, 36, 37, 38, 39, 40, 70, 71, 72, 73, 74, 75, 76, 77] (by decide +kernel) (by decide +kernel)) (goodIn_sub (fun _ h => List.mem_cons_of_mem _ (List.mem_append_right _ h)) (by decide +kernel))
set_option maxRecDepth 20000 in
theorem gX2_entryMask_X2_ruleAt : GoodIn wsX2_entryMask (wsV RX2 70 RX2 yX2_ruleAt wsX2_ruleAt) := goodIn_app (goodIn_of _ (by decide +kernel)) ggX2_entryMask_X2_ruleAt
set_option maxRecDepth 20000 in
theorem ggX2_entryMask_X2_valueOfEntry : GoodIn wsX2_entryMask wsX2_valueOfEntry := goodIn_ca (goodIn_r _ [43, 16, 17, 1, 2, 3, 4, 44, 45, 8, 46, 47, 48, 49, 50, 51, 52, 53, 54, 55, 56, 57, 58, 62, 63, 64, 65, 66, 67, 68, 69] (by decide +kernel) (by decide +kernel)) (goodIn_sub (fun _ h => List.mem_cons_of_mem _ (List.mem_append_right _ h)) (by decide +kernel))
set_option maxRecDepth 20000 in
theorem gX2_entryMask_X2_valueOfEntry : GoodIn wsX2_entryMask (va_wsS RX2 171 yX2_valueOfEntry wsX2_valueOfEntry) := goodIn_app (goodIn_of _ (by decide +kernel)) ggX2_entryMask_X2_valueOfEntry
set_option maxRecDepth 20000 in
theorem ggX2_entryMask_X2_blockMask : GoodIn wsX2_entryMask wsX2_blockMask := goodIn_r _ [61, 47, 48, 8, 49, 50, 51, 52] (by decide +kernel) (by decide +kernel)
set_option maxRecDepth 20000 in
theorem gX2_entryMask_X2_blockMask : GoodIn wsX2_entryMask (va_wsS RX2 177 yX2_blockMask wsX2_blockMask) := goodIn_app (goodIn_of _ (by decide +kernel)) ggX2_entryMask_X2_blockMask
set_option maxRecDepth 20000 in
theorem ggX2_entryMask_X2_packetNumber : GoodIn wsX2_entryMask wsX2_packetNumber := goodIn_r _ [58] (by decide +kernel) (by decide +kernel)
set_option maxRecDepth 20000 in
theorem gX2_entryMask_X2_packetNumber : GoodIn wsX2_entryMask (va_wsS RX2 180 yX2_packetNumber wsX2_packetNumber) := goodIn_app (goodIn_of _ (by decide +kernel)) ggX2_entryMask_X2_packetNumber
theorem dX2_entryMask_0 : decode cX2_entryMask 0 = .ok (.aload_n 0, 1) := by decide +kernel
theorem dX2_entryMask_1 : decode cX2_entryMask 1 = .ok (.iload_n 1, 1) := by decide +kernel
theorem dX2_entryMask_2 : decode cX2_entryMask 2 = .ok (.invokevirtual 70, 3) := by decide +kernel
theorem dX2_entryMask_5 : decode cX2_entryMask 5 = .ok (.astore_n 3, 1) := by decide +kernel
theorem dX2_entryMask_6 : decode cX2_entryMask 6 = .ok (.aload_n 3, 1) := by decide +kernel
theorem dX2_entryMask_7 : decode cX2_entryMask 7 = .ok (.iload_n 2, 1) := by decide +kernel
theorem dX2_entryMask_8 : decode cX2_entryMask 8 = .ok (.invokestatic 171, 3) := by decide +kernel
theorem dX2_entryMask_11 : decode cX2_entryMask 11 = .ok (.istore 4, 2) := by decide +kernel
theorem dX2_entryMask_13 : decode cX2_entryMask 13 = .ok (.aload_n 3, 1) := by decide +kernel
theorem dX2_entryMask_14 : decode cX2_entryMask 14 = .ok (.getfield 77, 3) := by decide +kernel
theorem dX2_entryMask_17 : decode cX2_entryMask 17 = .ok (.getfield 174, 3) := by decide +kernel
theorem dX2_entryMask_20 : decode cX2_entryMask 20 = .ok (.iload 4, 2) := by decide +kernel
theorem dX2_entryMask_22 : decode cX2_entryMask 22 = .ok (.bipush 7, 2) := by decide +kernel
theorem dX2_entryMask_24 : decode cX2_entryMask 24 = .ok (.ishr, 1) := by decide +kernel
theorem dX2_entryMask_25 : decode cX2_entryMask 25 = .ok (.bipush 32, 2) := by decide +kernel
theorem dX2_entryMask_27 : decode cX2_entryMask 27 = .ok (.invokestatic 177, 3) := by decide +kernel
theorem dX2_entryMask_30 : decode cX2_entryMask 30 = .ok (.istore 5, 2) := by decide +kernel
theorem dX2_entryMask_32 : decode cX2_entryMask 32 = .ok (.aload_n 3, 1) := by decide +kernel
theorem dX2_entryMask_33 : decode cX2_entryMask 33 = .ok (.getfield 84, 3) := by decide +kernel
theorem dX2_entryMask_36 : decode cX2_entryMask 36 = .ok (.getfield 174, 3) := by decide +kernel
theorem dX2_entryMask_39 : decode cX2_entryMask 39 = .ok (.iload 4, 2) := by decide +kernel
theorem dX2_entryMask_41 : decode cX2_entryMask 41 = .ok (.iconst 2, 1) := by decide +kernel
theorem dX2_entryMask_42 : decode cX2_entryMask 42 = .ok (.ishr, 1) := by decide +kernel
theorem dX2_entryMask_43 : decode cX2_entryMask 43 = .ok (.bipush 31, 2) := by decide +kernel
theorem dX2_entryMask_45 : decode cX2_entryMask 45 = .ok (.iand, 1) := by decide +kernel
theorem dX2_entryMask_46 : decode cX2_entryMask 46 = .ok (.bipush 32, 2) := by decide +kernel
theorem dX2_entryMask_48 : decode cX2_entryMask 48 = .ok (.invokestatic 177, 3) := by decide +kernel
theorem dX2_entryMask_51 : decode cX2_entryMask 51 = .ok (.istore 6, 2) := by decide +kernel
theorem dX2_entryMask_53 : decode cX2_entryMask 53 = .ok (.aload_n 3, 1) := by decide +kernel
theorem dX2_entryMask_54 : decode cX2_entryMask 54 = .ok (.getfield 87, 3) := by decide +kernel
theorem dX2_entryMask_57 : decode cX2_entryMask 57 = .ok (.iload 4, 2) := by decide +kernel
theorem dX2_entryMask_59 : decode cX2_entryMask 59 = .ok (.iconst 3, 1) := by decide +kernel
theorem dX2_entryMask_60 : decode cX2_entryMask 60 = .ok (.iand, 1) := by decide +kernel
theorem dX2_entryMask_61 : decode cX2_entryMask 61 = .ok (.iconst 4, 1) := by decide +kernel
theorem dX2_entryMask_62 : decode cX2_entryMask 62 = .ok (.invokestatic 177, 3) := by decide +kernel
theorem dX2_entryMask_65 : decode cX2_entryMask 65 = .ok (.istore 7, 2) := by decide +kernel
theorem dX2_entryMask_67 : decode cX2_entryMask 67 = .ok (.iload 5, 2) := by decide +kernel
theorem dX2_entryMask_69 : decode cX2_entryMask 69 = .ok (.iload 6, 2) := by decide +kernel
theorem dX2_entryMask_71 : decode cX2_entryMask 71 = .ok (.iload 7, 2) := by decide +kernel
theorem dX2_entryMask_73 : decode cX2_entryMask 73 = .ok (.invokestatic 180, 3) := by decide +kernel
theorem dX2_entryMask_76 : decode cX2_entryMask 76 = .ok (.ireturn, 1) := by decide +kernel
set_option maxRecDepth 20000 in
theorem ggX2_allEntries_Jx4a65c_size_8abf5 : GoodIn wsX2_allEntries wsJx4a65c_size_8abf5 := goodIn_r _ [7, 8, 55, 56, 57] (by decide +kernel) (by decide +kernel)
set_option maxRecDepth 20000 in
theorem gX2_allEntries_Jx4a65c_size_8abf5 : GoodIn wsX2_allEntries (wsV RX2 33 RJx4a65c yJx4a65c_size_8abf5 wsJx4a65c_size_8abf5) := goodIn_app (goodIn_of _ (by decide +kernel)) ggX2_allEntries_Jx4a65c_size_8abf5
set_option maxRecDepth 20000 in
theorem ggX2_allEntries_Jx4a65c_get_915e3 : GoodIn wsX2_allEntries wsJx4a65c_get_915e3 := goodIn_r _ [12, 8, 13, 14, 15, 16, 17, 18, 19, 20, 21, 22, 23, 6, 24, 25, 55, 56, 57] (by decide +kernel) (by decide +kernel)
set_option maxRecDepth 20000 in
theorem gX2_allEntries_Jx4a65c_get_915e3 : GoodIn wsX2_allEntries (wsV RX2 112 RJx4a65c yJx4a65c_get_915e3 wsJx4a65c_get_915e3) := goodIn_app (goodIn_of _ (by decide +kernel)) ggX2_allEntries_Jx4a65c_get_915e3
set_option maxRecDepth 20000 in
theorem ggX2_allEntries_X2_entryCount : GoodIn wsX2_allEntries wsX2_entryCount := goodIn_r _ [29, 30, 31, 32, 33, 34, 35, 28, 36, 37, 38, 39, 40, 41, 42, 43, 44, 45, 46, 47, 48, 49, 58, 59, 60, 61, 62, 63, 64, 65] (by decide +kernel) (by decide +kernel)
set_option maxRecDepth 20000 in
theorem gX2_allEntries_X2_entryCount : GoodIn wsX2_allEntries (va_wsS RX2 168 yX2_entryCount wsX2_entryCount) := goodIn_app (goodIn_of _ (by decide +kernel)) ggX2_allEntries_X2_entryCount
theorem dX2_allEntries_0 : decode cX2_allEntries 0 = .ok (.iconst 0, 1) := by decide +kernel
theorem dX2_allEntries_1 : decode cX2_allEntries 1 = .ok (.istore_n 1, 1) := by decide +kernel
theorem dX2_allEntries_2 : decode cX2_allEntries 2 = .ok (.iconst 0, 1) := by decide +kernel
theorem dX2_allEntries_3 : decode cX2_allEntries 3 = .ok (.istore_n 2, 1) := by decide +kernel
theorem dX2_allEntries_4 : decode cX2_allEntries 4 = .ok (.iload_n 2, 1) := by decide +kernel
theorem dX2_allEntries_5 : decode cX2_allEntries 5 = .ok (.aload_n 0, 1) := by decide +kernel
theorem dX2_allEntries_6 : decode cX2_allEntries 6 = .ok (.getfield 10, 3) := by decide +kernel
theorem dX2_allEntries_9 : decode cX2_allEntries 9 = .ok (.invokevirtual 33, 3) := by decide +kernel
theorem dX2_allEntries_12 : decode cX2_allEntries 12 = .ok (.if_icmp .ge 26, 3) := by decide +kernel
theorem dX2_allEntries_15 : decode cX2_allEntries 15 = .ok (.iload_n 1, 1) := by decide +kernel
theorem dX2_allEntries_16 : decode cX2_allEntries 16 = .ok (.aload_n 0, 1) := by decide +kernel
theorem dX2_allEntries_17 : decode cX2_allEntries 17 = .ok (.getfield 10, 3) := by decide +kernel
theorem dX2_allEntries_20 : decode cX2_allEntries 20 = .ok (.iload_n 2, 1) := by decide +kernel
theorem dX2_allEntries_21 : decode cX2_allEntries 21 = .ok (.invokevirtual 112, 3) := by decide +kernel
theorem dX2_allEntries_24 : decode cX2_allEntries 24 = .ok (.checkcast 47, 3) := by decide +kernel
theorem dX2_allEntries_27 : decode cX2_allEntries 27 = .ok (.invokestatic 168, 3) := by decide +kernel
theorem dX2_allEntries_30 : decode cX2_allEntries 30 = .ok (.iadd, 1) := by decide +kernel
theorem dX2_allEntries_31 : decode cX2_allEntries 31 = .ok (.istore_n 1, 1) := by decide +kernel
theorem dX2_allEntries_32 : decode cX2_allEntries 32 = .ok (.iinc 2 1, 3) := by decide +kernel
theorem dX2_allEntries_35 : decode cX2_allEntries 35 = .ok (.goto (-31), 3) := by decide +kernel
theorem dX2_allEntries_38 : decode cX2_allEntries 38 = .ok (.iload_n 1, 1) := by decide +kernel
theorem dX2_allEntries_39 : decode cX2_allEntries 39 = .ok (.ireturn, 1) := by decide +kernel
theorem dX2_isRange_0 : decode cX2_isRange 0 = .ok (.iload_n 0, 1) := by decide +kernel
theorem dX2_isRange_1 : decode cX2_isRange 1 = .ok (.ifCond .lt 18, 3) := by decide +kernel
theorem dX2_isRange_4 : decode cX2_isRange 4 = .ok (.iload_n 0, 1) := by decide +kernel
theorem dX2_isRange_5 : decode cX2_isRange 5 = .ok (.iload_n 1, 1) := by decide +kernel
theorem dX2_isRange_6 : decode cX2_isRange 6 = .ok (.if_icmp .gt 13, 3) := by decide +kernel
theorem dX2_isRange_9 : decode cX2_isRange 9 = .ok (.iload_n 1, 1) := by decide +kernel
theorem dX2_isRange_10 : decode cX2_isRange 10 = .ok (.bipush 32, 2) := by decide +kernel
theorem dX2_isRange_12 : decode cX2_isRange 12 = .ok (.if_icmp .ge 7, 3) := by decide +kernel
theorem dX2_isRange_15 : decode cX2_isRange 15 = .ok (.iconst 1, 1) := by decide +kernel
theorem dX2_isRange_16 : decode cX2_isRange 16 = .ok (.goto 4, 3) := by decide +kernel
theorem dX2_isRange_19 : decode cX2_isRange 19 = .ok (.iconst 0, 1) := by decide +kernel
theorem dX2_isRange_20 : decode cX2_isRange 20 = .ok (.ireturn, 1) := by decide +kernel
theorem dX2_checkPacket_0 : decode cX2_checkPacket 0 = .ok (.iload_n 0, 1) := by decide +kernel
theorem dX2_checkPacket_1 : decode cX2_checkPacket 1 = .ok (.ifCond .lt 19, 3) := by decide +kernel
theorem dX2_checkPacket_4 : decode cX2_checkPacket 4 = .ok (.iload_n 0, 1) := by decide +kernel
theorem dX2_checkPacket_5 : decode cX2_checkPacket 5 = .ok (.bipush 32, 2) := by decide +kernel
theorem dX2_checkPacket_7 : decode cX2_checkPacket 7 = .ok (.if_icmp .ge 13, 3) := by decide +kernel
theorem dX2_checkPacket_10 : decode cX2_checkPacket 10 = .ok (.iload_n 1, 1) := by decide +kernel
theorem dX2_checkPacket_11 : decode cX2_checkPacket 11 = .ok (.ifCond .lt 9, 3) := by decide +kernel
theorem dX2_checkPacket_14 : decode cX2_checkPacket 14 = .ok (.iload_n 1, 1) := by decide +kernel
theorem dX2_checkPacket_15 : decode cX2_checkPacket 15 = .ok (.bipush 32, 2) := by decide +kernel
theorem dX2_checkPacket_17 : decode cX2_checkPacket 17 = .ok (.if_icmp .lt 13, 3) := by decide +kernel
theorem dX2_checkPacket_20 : decode cX2_checkPacket 20 = .ok (.new 24, 3) := by decide +kernel
theorem dX2_checkPacket_23 : decode cX2_checkPacket 23 = .ok (.dup, 1) := by decide +kernel
theorem dX2_checkPacket_24 : decode cX2_checkPacket 24 = .ok (.ldc 183, 2) := by decide +kernel
theorem dX2_checkPacket_26 : decode cX2_checkPacket 26 = .ok (.invokespecial 28, 3) := by decide +kernel
theorem dX2_checkPacket_29 : decode cX2_checkPacket 29 = .ok (.athrow, 1) := by decide +kernel
theorem dX2_checkPacket_30 : decode cX2_checkPacket 30 = .ok (.iload_n 2, 1) := by decide +kernel
theorem dX2_checkPacket_31 : decode cX2_checkPacket 31 = .ok (.ifCond .lt 8, 3) := by decide +kernel
theorem dX2_checkPacket_34 : decode cX2_checkPacket 34 = .ok (.iload_n 2, 1) := by decide +kernel
theorem dX2_checkPacket_35 : decode cX2_checkPacket 35 = .ok (.iconst 4, 1) := by decide +kernel
theorem dX2_checkPacket_36 : decode cX2_checkPacket 36 = .ok (.if_icmp .lt 13, 3) := by decide +kernel
theorem dX2_checkPacket_39 : decode cX2_checkPacket 39 = .ok (.new 24, 3) := by decide +kernel
theorem dX2_checkPacket_42 : decode cX2_checkPacket 42 = .ok (.dup, 1) := by decide +kernel
theorem dX2_checkPacket_43 : decode cX2_checkPacket 43 = .ok (.ldc 185, 2) := by decide +kernel
theorem dX2_checkPacket_45 : decode cX2_checkPacket 45 = .ok (.invokespecial 28, 3) := by decide +kernel
theorem dX2_checkPacket_48 : decode cX2_checkPacket 48 = .ok (.athrow, 1) := by decide +kernel
theorem dX2_checkPacket_49 : decode cX2_checkPacket 49 = .ok (.return_, 1) := by decide +kernel
set_option maxRecDepth 20000 in
theorem ggX2_checkPlace_Jx4a65c_size_8abf5 : GoodIn wsX2_checkPlace wsJx4a65c_size_8abf5 := goodIn_r _ [8, 9, 15, 16, 17] (by decide +kernel) (by decide +kernel)
set_option maxRecDepth 20000 in
theorem gX2_checkPlace_Jx4a65c_size_8abf5 : GoodIn wsX2_checkPlace (wsV RX2 33 RJx4a65c yJx4a65c_size_8abf5 wsJx4a65c_size_8abf5) := goodIn_app (goodIn_of _ (by decide +kernel)) ggX2_checkPlace_Jx4a65c_size_8abf5
theorem dX2_checkPlace_0 : decode cX2_checkPlace 0 = .ok (.iload_n 1, 1) := by decide +kernel
theorem dX2_checkPlace_1 : decode cX2_checkPlace 1 = .ok (.ifCond .lt 14, 3) := by decide +kernel
theorem dX2_checkPlace_4 : decode cX2_checkPlace 4 = .ok (.iload_n 1, 1) := by decide +kernel
theorem dX2_checkPlace_5 : decode cX2_checkPlace 5 = .ok (.aload_n 0, 1) := by decide +kernel
theorem dX2_checkPlace_6 : decode cX2_checkPlace 6 = .ok (.getfield 10, 3) := by decide +kernel
theorem dX2_checkPlace_9 : decode cX2_checkPlace 9 = .ok (.invokevirtual 33, 3) := by decide +kernel
theorem dX2_checkPlace_12 : decode cX2_checkPlace 12 = .ok (.if_icmp .lt 13, 3) := by decide +kernel
theorem dX2_checkPlace_15 : decode cX2_checkPlace 15 = .ok (.new 150, 3) := by decide +kernel
theorem dX2_checkPlace_18 : decode cX2_checkPlace 18 = .ok (.dup, 1) := by decide +kernel
theorem dX2_checkPlace_19 : decode cX2_checkPlace 19 = .ok (.ldc 187, 2) := by decide +kernel
theorem dX2_checkPlace_21 : decode cX2_checkPlace 21 = .ok (.invokespecial 154, 3) := by decide +kernel
theorem dX2_checkPlace_24 : decode cX2_checkPlace 24 = .ok (.athrow, 1) := by decide +kernel
theorem dX2_checkPlace_25 : decode cX2_checkPlace 25 = .ok (.return_, 1) := by decide +kernel
set_option maxRecDepth 20000 in
theorem ggX2_ruleAt_X2_checkPlace : GoodIn wsX2_ruleAt wsX2_checkPlace := goodIn_ca (goodIn_r _ [7, 8, 9, 1, 10, 11, 12, 13, 14, 15, 33, 34, 35, 36, 37, 38, 39, 40] (by decide +kernel) (by decide +kernel)) (goodIn_sub (fun _ h => List.mem_cons_of_mem _ (List.mem_append_right _ h)) (by decide +kernel))
set_option maxRecDepth 20000 in
theorem gX2_ruleAt_X2_checkPlace : GoodIn wsX2_ruleAt (wsV RX2 56 RX2 yX2_checkPlace wsX2_checkPlace) := goodIn_app (goodIn_of _ (by decide +kernel)) ggX2_ruleAt_X2_checkPlace
set_option maxRecDepth 20000 in
theorem ggX2_ruleAt_Jx4a65c_get_915e3 : GoodIn wsX2_ruleAt wsJx4a65c_get_915e3 := goodIn_r _ [19, 15, 20, 21, 22, 23, 24, 25, 26, 27, 28, 29, 30, 13, 31, 32, 38, 39, 40] (by decide +kernel) (by decide +kernel)
set_option maxRecDepth 20000 in
theorem gX2_ruleAt_Jx4a65c_get_915e3 : GoodIn wsX2_ruleAt (wsV RX2 112 RJx4a65c yJx4a65c_get_915e3 wsJx4a65c_get_915e3) := goodIn_app (goodIn_of _ (by decide +kernel)) ggX2_ruleAt_Jx4a65c_get_915e3
theorem dX2_ruleAt_0 : decode cX2_ruleAt 0 = .ok (.aload_n 0, 1) := by decide +kernel
theorem dX2_ruleAt_1 : decode cX2_ruleAt 1 = .ok (.iload_n 1, 1) := by decide +kernel
theorem dX2_ruleAt_2 : decode cX2_ruleAt 2 = .ok (.invokevirtual 56, 3) := by decide +kernel
theorem dX2_ruleAt_5 : decode cX2_ruleAt 5 = .ok (.aload_n 0, 1) := by decide +kernel
theorem dX2_ruleAt_6 : decode cX2_ruleAt 6 = .ok (.getfield 10, 3) := by decide +kernel
theorem dX2_ruleAt_9 : decode cX2_ruleAt 9 = .ok (.iload_n 1, 1) := by decide +kernel
theorem dX2_ruleAt_10 : decode cX2_ruleAt 10 = .ok (.invokevirtual 112, 3) := by decide +kernel
theorem dX2_ruleAt_13 : decode cX2_ruleAt 13 = .ok (.checkcast 47, 3) := by decide +kernel
theorem dX2_ruleAt_16 : decode cX2_ruleAt 16 = .ok (.areturn, 1) := by decide +kernel
set_option maxRecDepth 20000 in
theorem ggX2_firstMatch_Jx4a65c_size_8abf5 : GoodIn wsX2_firstMatch wsJx4a65c_size_8abf5 := goodIn_r _ [7, 8, 53, 54, 55] (by decide +kernel) (by decide +kernel)
set_option maxRecDepth 20000 in
theorem gX2_firstMatch_Jx4a65c_size_8abf5 : GoodIn wsX2_firstMatch (wsV RX2 33 RJx4a65c yJx4a65c_size_8abf5 wsJx4a65c_size_8abf5) := goodIn_app (goodIn_of _ (by decide +kernel)) ggX2_firstMatch_Jx4a65c_size_8abf5
set_option maxRecDepth 20000 in
theorem ggX2_firstMatch_Jx4a65c_get_915e3 : GoodIn wsX2_firstMatch wsJx4a65c_get_915e3 := goodIn_r _ [12, 8, 13, 14, 15, 16, 17, 18, 19, 20, 21, 22, 23, 6, 24, 25, 53, 54, 55] (by decide +kernel) (by decide +kernel)
set_option maxRecDepth 20000 in
theorem gX2_firstMatch_Jx4a65c_get_915e3 : GoodIn wsX2_firstMatch (wsV RX2 112 RJx4a65c yJx4a65c_get_915e3 wsJx4a65c_get_915e3) := goodIn_app (goodIn_of _ (by decide +kernel)) ggX2_firstMatch_Jx4a65c_get_915e3
set_option maxRecDepth 20000 in
theorem ggX2_firstMatch_X1_matches : GoodIn wsX2_firstMatch wsX1_matches := goodIn_r _ [30, 31, 32, 33, 34, 29, 35, 36, 37, 38, 39, 40, 41, 42, 43, 44, 45, 46, 47, 56, 57, 58, 59, 60, 61, 62, 63] (by decide +kernel) (by decide +kernel)
set_option maxRecDepth 20000 in
theorem gX2_firstMatch_X1_matches : GoodIn wsX2_firstMatch (wsV RX2 189 RX1 yX1_matches wsX1_matches) := goodIn_app (goodIn_of _ (by decide +kernel)) ggX2_firstMatch_X1_matches
theorem dX2_firstMatch_0 : decode cX2_firstMatch 0 = .ok (.iconst 0, 1) := by decide +kernel
theorem dX2_firstMatch_1 : decode cX2_firstMatch 1 = .ok (.istore 4, 2) := by decide +kernel
theorem dX2_firstMatch_3 : decode cX2_firstMatch 3 = .ok (.iload 4, 2) := by decide +kernel
theorem dX2_firstMatch_5 : decode cX2_firstMatch 5 = .ok (.aload_n 0, 1) := by decide +kernel
theorem dX2_firstMatch_6 : decode cX2_firstMatch 6 = .ok (.getfield 10, 3) := by decide +kernel
theorem dX2_firstMatch_9 : decode cX2_firstMatch 9 = .ok (.invokevirtual 33, 3) := by decide +kernel
theorem dX2_firstMatch_12 : decode cX2_firstMatch 12 = .ok (.if_icmp .ge 30, 3) := by decide +kernel
theorem dX2_firstMatch_15 : decode cX2_firstMatch 15 = .ok (.aload_n 0, 1) := by decide +kernel
theorem dX2_firstMatch_16 : decode cX2_firstMatch 16 = .ok (.getfield 10, 3) := by decide +kernel
theorem dX2_firstMatch_19 : decode cX2_firstMatch 19 = .ok (.iload 4, 2) := by decide +kernel
theorem dX2_firstMatch_21 : decode cX2_firstMatch 21 = .ok (.invokevirtual 112, 3) := by decide +kernel
theorem dX2_firstMatch_24 : decode cX2_firstMatch 24 = .ok (.checkcast 47, 3) := by decide +kernel
theorem dX2_firstMatch_27 : decode cX2_firstMatch 27 = .ok (.iload_n 1, 1) := by decide +kernel
theorem dX2_firstMatch_28 : decode cX2_firstMatch 28 = .ok (.iload_n 2, 1) := by decide +kernel
theorem dX2_firstMatch_29 : decode cX2_firstMatch 29 = .ok (.iload_n 3, 1) := by decide +kernel
theorem dX2_firstMatch_30 : decode cX2_firstMatch 30 = .ok (.invokevirtual 189, 3) := by decide +kernel
theorem dX2_firstMatch_33 : decode cX2_firstMatch 33 = .ok (.ifCond .ne 9, 3) := by decide +kernel
theorem dX2_firstMatch_36 : decode cX2_firstMatch 36 = .ok (.iinc 4 1, 3) := by decide +kernel
theorem dX2_firstMatch_39 : decode cX2_firstMatch 39 = .ok (.goto (-36), 3) := by decide +kernel
theorem dX2_firstMatch_42 : decode cX2_firstMatch 42 = .ok (.iload 4, 2) := by decide +kernel
theorem dX2_firstMatch_44 : decode cX2_firstMatch 44 = .ok (.ireturn, 1) := by decide +kernel
set_option maxRecDepth 20000 in
theorem ggX2_permittedDestinations_Jx4a65c_size_8abf5 : GoodIn wsX2_permittedDestinations wsJx4a65c_size_8abf5 := goodIn_r _ [10, 11, 59, 60, 61] (by decide +kernel) (by decide +kernel)
set_option maxRecDepth 20000 in
theorem gX2_permittedDestinations_Jx4a65c_size_8abf5 : GoodIn wsX2_permittedDestinations (wsV RX2 33 RJx4a65c yJx4a65c_size_8abf5 wsJx4a65c_size_8abf5) := goodIn_app (goodIn_of _ (by decide +kernel)) ggX2_permittedDestinations_Jx4a65c_size_8abf5
set_option maxRecDepth 20000 in
theorem ggX2_permittedDestinations_Jx4a65c_get_915e3 : GoodIn wsX2_permittedDestinations wsJx4a65c_get_915e3 := goodIn_r _ [15, 11, 16, 17, 18, 19, 20, 21, 22, 23, 24, 25, 26, 9, 27, 28, 59, 60, 61] (by decide +kernel) (by decide +kernel)
set_option maxRecDepth 20000 in
theorem gX2_permittedDestinations_Jx4a65c_get_915e3 : GoodIn wsX2_permittedDestinations (wsV RX2 112 RJx4a65c yJx4a65c_get_915e3 wsJx4a65c_get_915e3) := goodIn_app (goodIn_of _ (by decide +kernel)) ggX2_permittedDestinations_Jx4a65c_get_915e3
set_option maxRecDepth 20000 in
theorem ggX2_permittedDestinations_X1_concerns : GoodIn wsX2_permittedDestinations wsX1_concerns := goodIn_r _ [33, 34, 35, 36, 37, 38, 39, 40, 41, 42, 43, 44, 45, 51, 52, 53, 54, 55, 56, 57, 58] (by decide +kernel) (by decide +kernel)
set_option maxRecDepth 20000 in
theorem gX2_permittedDestinations_X1_concerns : GoodIn wsX2_permittedDestinations (wsV RX2 193 RX1 yX1_concerns wsX1_concerns) := goodIn_app (goodIn_of _ (by decide +kernel)) ggX2_permittedDestinations_X1_concerns
theorem dX2_permittedDestinations_0 : decode cX2_permittedDestinations 0 = .ok (.iconst (-1), 1) := by decide +kernel
theorem dX2_permittedDestinations_1 : decode cX2_permittedDestinations 1 = .ok (.istore 4, 2) := by decide +kernel
theorem dX2_permittedDestinations_3 : decode cX2_permittedDestinations 3 = .ok (.iconst 0, 1) := by decide +kernel
theorem dX2_permittedDestinations_4 : decode cX2_permittedDestinations 4 = .ok (.istore 5, 2) := by decide +kernel
theorem dX2_permittedDestinations_6 : decode cX2_permittedDestinations 6 = .ok (.iconst 0, 1) := by decide +kernel
theorem dX2_permittedDestinations_7 : decode cX2_permittedDestinations 7 = .ok (.istore 6, 2) := by decide +kernel
theorem dX2_permittedDestinations_9 : decode cX2_permittedDestinations 9 = .ok (.iload 6, 2) := by decide +kernel
theorem dX2_permittedDestinations_11 : decode cX2_permittedDestinations 11 = .ok (.aload_n 0, 1) := by decide +kernel
theorem dX2_permittedDestinations_12 : decode cX2_permittedDestinations 12 = .ok (.getfield 10, 3) := by decide +kernel
theorem dX2_permittedDestinations_15 : decode cX2_permittedDestinations 15 = .ok (.invokevirtual 33, 3) := by decide +kernel
theorem dX2_permittedDestinations_18 : decode cX2_permittedDestinations 18 = .ok (.if_icmp .ge 76, 3) := by decide +kernel
theorem dX2_permittedDestinations_21 : decode cX2_permittedDestinations 21 = .ok (.aload_n 0, 1) := by decide +kernel
theorem dX2_permittedDestinations_22 : decode cX2_permittedDestinations 22 = .ok (.getfield 10, 3) := by decide +kernel
theorem dX2_permittedDestinations_25 : decode cX2_permittedDestinations 25 = .ok (.iload 6, 2) := by decide +kernel
theorem dX2_permittedDestinations_27 : decode cX2_permittedDestinations 27 = .ok (.invokevirtual 112, 3) := by decide +kernel
theorem dX2_permittedDestinations_30 : decode cX2_permittedDestinations 30 = .ok (.checkcast 47, 3) := by decide +kernel
theorem dX2_permittedDestinations_33 : decode cX2_permittedDestinations 33 = .ok (.astore 7, 2) := by decide +kernel
theorem dX2_permittedDestinations_35 : decode cX2_permittedDestinations 35 = .ok (.iload 6, 2) := by decide +kernel
theorem dX2_permittedDestinations_37 : decode cX2_permittedDestinations 37 = .ok (.iload_n 3, 1) := by decide +kernel
theorem dX2_permittedDestinations_38 : decode cX2_permittedDestinations 38 = .ok (.if_icmp .eq 50, 3) := by decide +kernel
theorem dX2_permittedDestinations_41 : decode cX2_permittedDestinations 41 = .ok (.aload 7, 2) := by decide +kernel
theorem dX2_permittedDestinations_43 : decode cX2_permittedDestinations 43 = .ok (.iload_n 1, 1) := by decide +kernel
theorem dX2_permittedDestinations_44 : decode cX2_permittedDestinations 44 = .ok (.iload_n 2, 1) := by decide +kernel
theorem dX2_permittedDestinations_45 : decode cX2_permittedDestinations 45 = .ok (.invokevirtual 193, 3) := by decide +kernel
theorem dX2_permittedDestinations_48 : decode cX2_permittedDestinations 48 = .ok (.ifCond .eq 40, 3) := by decide +kernel
theorem dX2_permittedDestinations_51 : decode cX2_permittedDestinations 51 = .ok (.aload 7, 2) := by decide +kernel
theorem dX2_permittedDestinations_53 : decode cX2_permittedDestinations 53 = .ok (.getfield 84, 3) := by decide +kernel
theorem dX2_permittedDestinations_56 : decode cX2_permittedDestinations 56 = .ok (.getfield 174, 3) := by decide +kernel
theorem dX2_permittedDestinations_59 : decode cX2_permittedDestinations 59 = .ok (.istore 8, 2) := by decide +kernel
theorem dX2_permittedDestinations_61 : decode cX2_permittedDestinations 61 = .ok (.aload 7, 2) := by decide +kernel
theorem dX2_permittedDestinations_63 : decode cX2_permittedDestinations 63 = .ok (.getfield 91, 3) := by decide +kernel
theorem dX2_permittedDestinations_66 : decode cX2_permittedDestinations 66 = .ok (.ifCond .eq 13, 3) := by decide +kernel
theorem dX2_permittedDestinations_69 : decode cX2_permittedDestinations 69 = .ok (.iload 5, 2) := by decide +kernel
theorem dX2_permittedDestinations_71 : decode cX2_permittedDestinations 71 = .ok (.iload 4, 2) := by decide +kernel
theorem dX2_permittedDestinations_73 : decode cX2_permittedDestinations 73 = .ok (.iload 8, 2) := by decide +kernel
theorem dX2_permittedDestinations_75 : decode cX2_permittedDestinations 75 = .ok (.iand, 1) := by decide +kernel
theorem dX2_permittedDestinations_76 : decode cX2_permittedDestinations 76 = .ok (.ior, 1) := by decide +kernel
theorem dX2_permittedDestinations_77 : decode cX2_permittedDestinations 77 = .ok (.istore 5, 2) := by decide +kernel
theorem dX2_permittedDestinations_79 : decode cX2_permittedDestinations 79 = .ok (.iload 4, 2) := by decide +kernel
theorem dX2_permittedDestinations_81 : decode cX2_permittedDestinations 81 = .ok (.iload 8, 2) := by decide +kernel
theorem dX2_permittedDestinations_83 : decode cX2_permittedDestinations 83 = .ok (.iconst (-1), 1) := by decide +kernel
theorem dX2_permittedDestinations_84 : decode cX2_permittedDestinations 84 = .ok (.ixor, 1) := by decide +kernel
theorem dX2_permittedDestinations_85 : decode cX2_permittedDestinations 85 = .ok (.iand, 1) := by decide +kernel
theorem dX2_permittedDestinations_86 : decode cX2_permittedDestinations 86 = .ok (.istore 4, 2) := by decide +kernel
theorem dX2_permittedDestinations_88 : decode cX2_permittedDestinations 88 = .ok (.iinc 6 1, 3) := by decide +kernel
theorem dX2_permittedDestinations_91 : decode cX2_permittedDestinations 91 = .ok (.goto (-82), 3) := by decide +kernel
theorem dX2_permittedDestinations_94 : decode cX2_permittedDestinations 94 = .ok (.iload 5, 2) := by decide +kernel
theorem dX2_permittedDestinations_96 : decode cX2_permittedDestinations 96 = .ok (.ireturn, 1) := by decide +kernel
set_option maxRecDepth 20000 in
theorem ggX2_undecidedDestinations_Jx4a65c_size_8abf5 : GoodIn wsX2_undecidedDestinations wsJx4a65c_size_8abf5 := goodIn_r _ [9, 10, 58, 59, 60] (by decide +kernel) (by decide +kernel)
set_option maxRecDepth 20000 in
theorem gX2_undecidedDestinations_Jx4a65c_size_8abf5 : GoodIn wsX2_undecidedDestinations (wsV RX2 33 RJx4a65c yJx4a65c_size_8abf5 wsJx4a65c_size_8abf5) := goodIn_app (goodIn_of _ (by decide +kernel)) ggX2_undecidedDestinations_Jx4a65c_size_8abf5
set_option maxRecDepth 20000 in
theorem ggX2_undecidedDestinations_Jx4a65c_get_915e3 : GoodIn wsX2_undecidedDestinations wsJx4a65c_get_915e3 := goodIn_r _ [14, 10, 15, 16, 17, 18, 19, 20, 21, 22, 23, 24, 25, 8, 26, 27, 58, 59, 60] (by decide +kernel) (by decide +kernel)
set_option maxRecDepth 20000 in
theorem gX2_undecidedDestinations_Jx4a65c_get_915e3 : GoodIn wsX2_undecidedDestinations (wsV RX2 112 RJx4a65c yJx4a65c_get_915e3 wsJx4a65c_get_915e3) := goodIn_app (goodIn_of _ (by decide +kernel)) ggX2_undecidedDestinations_Jx4a65c_get_915e3
set_option maxRecDepth 20000 in
theorem ggX2_undecidedDestinations_X1_concerns : GoodIn wsX2_undecidedDestinations wsX1_concerns := goodIn_r _ [32, 33, 34, 35, 36, 37, 38, 39, 40, 41, 42, 43, 44, 50, 51, 52, 53, 54, 55, 56, 57] (by decide +kernel) (by decide +kernel)
set_option maxRecDepth 20000 in
theorem gX2_undecidedDestinations_X1_concerns : GoodIn wsX2_undecidedDestinations (wsV RX2 193 RX1 yX1_concerns wsX1_concerns) := goodIn_app (goodIn_of _ (by decide +kernel)) ggX2_undecidedDestinations_X1_concerns
theorem dX2_undecidedDestinations_0 : decode cX2_undecidedDestinations 0 = .ok (.iconst (-1), 1) := by decide +kernel
theorem dX2_undecidedDestinations_1 : decode cX2_undecidedDestinations 1 = .ok (.istore 4, 2) := by decide +kernel
theorem dX2_undecidedDestinations_3 : decode cX2_undecidedDestinations 3 = .ok (.iconst 0, 1) := by decide +kernel
theorem dX2_undecidedDestinations_4 : decode cX2_undecidedDestinations 4 = .ok (.istore 5, 2) := by decide +kernel
theorem dX2_undecidedDestinations_6 : decode cX2_undecidedDestinations 6 = .ok (.iload 5, 2) := by decide +kernel
theorem dX2_undecidedDestinations_8 : decode cX2_undecidedDestinations 8 = .ok (.iload_n 3, 1) := by decide +kernel
theorem dX2_undecidedDestinations_9 : decode cX2_undecidedDestinations 9 = .ok (.if_icmp .ge 60, 3) := by decide +kernel
theorem dX2_undecidedDestinations_12 : decode cX2_undecidedDestinations 12 = .ok (.iload 5, 2) := by decide +kernel
theorem dX2_undecidedDestinations_14 : decode cX2_undecidedDestinations 14 = .ok (.aload_n 0, 1) := by decide +kernel
theorem dX2_undecidedDestinations_15 : decode cX2_undecidedDestinations 15 = .ok (.getfield 10, 3) := by decide +kernel
theorem dX2_undecidedDestinations_18 : decode cX2_undecidedDestinations 18 = .ok (.invokevirtual 33, 3) := by decide +kernel
theorem dX2_undecidedDestinations_21 : decode cX2_undecidedDestinations 21 = .ok (.if_icmp .ge 48, 3) := by decide +kernel
theorem dX2_undecidedDestinations_24 : decode cX2_undecidedDestinations 24 = .ok (.aload_n 0, 1) := by decide +kernel
theorem dX2_undecidedDestinations_25 : decode cX2_undecidedDestinations 25 = .ok (.getfield 10, 3) := by decide +kernel
theorem dX2_undecidedDestinations_28 : decode cX2_undecidedDestinations 28 = .ok (.iload 5, 2) := by decide +kernel
theorem dX2_undecidedDestinations_30 : decode cX2_undecidedDestinations 30 = .ok (.invokevirtual 112, 3) := by decide +kernel
theorem dX2_undecidedDestinations_33 : decode cX2_undecidedDestinations 33 = .ok (.checkcast 47, 3) := by decide +kernel
theorem dX2_undecidedDestinations_36 : decode cX2_undecidedDestinations 36 = .ok (.astore 6, 2) := by decide +kernel
theorem dX2_undecidedDestinations_38 : decode cX2_undecidedDestinations 38 = .ok (.aload 6, 2) := by decide +kernel
theorem dX2_undecidedDestinations_40 : decode cX2_undecidedDestinations 40 = .ok (.iload_n 1, 1) := by decide +kernel
theorem dX2_undecidedDestinations_41 : decode cX2_undecidedDestinations 41 = .ok (.iload_n 2, 1) := by decide +kernel
theorem dX2_undecidedDestinations_42 : decode cX2_undecidedDestinations 42 = .ok (.invokevirtual 193, 3) := by decide +kernel
theorem dX2_undecidedDestinations_45 : decode cX2_undecidedDestinations 45 = .ok (.ifCond .eq 18, 3) := by decide +kernel
theorem dX2_undecidedDestinations_48 : decode cX2_undecidedDestinations 48 = .ok (.iload 4, 2) := by decide +kernel
theorem dX2_undecidedDestinations_50 : decode cX2_undecidedDestinations 50 = .ok (.aload 6, 2) := by decide +kernel
theorem dX2_undecidedDestinations_52 : decode cX2_undecidedDestinations 52 = .ok (.getfield 84, 3) := by decide +kernel
theorem dX2_undecidedDestinations_55 : decode cX2_undecidedDestinations 55 = .ok (.getfield 174, 3) := by decide +kernel
theorem dX2_undecidedDestinations_58 : decode cX2_undecidedDestinations 58 = .ok (.iconst (-1), 1) := by decide +kernel
theorem dX2_undecidedDestinations_59 : decode cX2_undecidedDestinations 59 = .ok (.ixor, 1) := by decide +kernel
theorem dX2_undecidedDestinations_60 : decode cX2_undecidedDestinations 60 = .ok (.iand, 1) := by decide +kernel
theorem dX2_undecidedDestinations_61 : decode cX2_undecidedDestinations 61 = .ok (.istore 4, 2) := by decide +kernel
theorem dX2_undecidedDestinations_63 : decode cX2_undecidedDestinations 63 = .ok (.iinc 5 1, 3) := by decide +kernel
theorem dX2_undecidedDestinations_66 : decode cX2_undecidedDestinations 66 = .ok (.goto (-60), 3) := by decide +kernel
theorem dX2_undecidedDestinations_69 : decode cX2_undecidedDestinations 69 = .ok (.iload 4, 2) := by decide +kernel
theorem dX2_undecidedDestinations_71 : decode cX2_undecidedDestinations 71 = .ok (.ireturn, 1) := by decide +kernel
set_option maxRecDepth 20000 in
theorem ggX2_decidedPackets_X2_holds : GoodIn wsX2_decidedPackets wsX2_holds := goodIn_r _ [10] (by decide +kernel) (by decide +kernel)
set_option maxRecDepth 20000 in
theorem gX2_decidedPackets_X2_holds : GoodIn wsX2_decidedPackets (va_wsS RX2 202 yX2_holds wsX2_holds) := goodIn_app (goodIn_of _ (by decide +kernel)) ggX2_decidedPackets_X2_holds
set_option maxRecDepth 20000 in
theorem ggX2_decidedPackets_X2_undecidedDestinations : GoodIn wsX2_decidedPackets wsX2_undecidedDestinations := goodIn_r _ [14, 15, 16, 5, 6, 17, 18, 19, 20, 21, 22, 23, 24, 25, 26, 27, 28, 29, 30, 31, 32, 33, 34, 35, 36, 37, 38, 39, 40, 41, 42, 43, 44, 45, 46, 47, 48, 49, 50, 51, 52, 53, 8, 9, 10, 69, 70, 71, 72, 73, 61, 62, 63, 64, 65, 66, 67, 68, 74, 75, 76] (by decide +kernel) (by decide +kernel)
set_option maxRecDepth 20000 in
theorem gX2_decidedPackets_X2_undecidedDestinations : GoodIn wsX2_decidedPackets (wsV RX2 205 RX2 yX2_undecidedDestinations wsX2_undecidedDestinations) := goodIn_app (goodIn_of _ (by decide +kernel)) ggX2_decidedPackets_X2_undecidedDestinations
set_option maxRecDepth 20000 in
theorem ggX2_decidedPackets_J6_bitCount_0f7a4 : GoodIn wsX2_decidedPackets wsJ6_bitCount_0f7a4 := goodIn_r _ [57, 58, 59, 60] (by decide +kernel) (by decide +kernel)
set_option maxRecDepth 20000 in
theorem gX2_decidedPackets_J6_bitCount_0f7a4 : GoodIn wsX2_decidedPackets (va_wsS RX2 144 yJ6_bitCount_0f7a4 wsJ6_bitCount_0f7a4) := goodIn_app (goodIn_of _ (by decide +kernel)) ggX2_decidedPackets_J6_bitCount_0f7a4
theorem dX2_decidedPackets_0 : decode cX2_decidedPackets 0 = .ok (.iconst 0, 1) := by decide +kernel
theorem dX2_decidedPackets_1 : decode cX2_decidedPackets 1 = .ok (.istore_n 3, 1) := by decide +kernel
theorem dX2_decidedPackets_2 : decode cX2_decidedPackets 2 = .ok (.aload_n 1, 1) := by decide +kernel
theorem dX2_decidedPackets_3 : decode cX2_decidedPackets 3 = .ok (.getfield 77, 3) := by decide +kernel
theorem dX2_decidedPackets_6 : decode cX2_decidedPackets 6 = .ok (.getfield 196, 3) := by decide +kernel
theorem dX2_decidedPackets_9 : decode cX2_decidedPackets 9 = .ok (.istore 4, 2) := by decide +kernel
theorem dX2_decidedPackets_11 : decode cX2_decidedPackets 11 = .ok (.iload 4, 2) := by decide +kernel
theorem dX2_decidedPackets_13 : decode cX2_decidedPackets 13 = .ok (.aload_n 1, 1) := by decide +kernel
theorem dX2_decidedPackets_14 : decode cX2_decidedPackets 14 = .ok (.getfield 77, 3) := by decide +kernel
theorem dX2_decidedPackets_17 : decode cX2_decidedPackets 17 = .ok (.getfield 199, 3) := by decide +kernel
theorem dX2_decidedPackets_20 : decode cX2_decidedPackets 20 = .ok (.if_icmp .gt 63, 3) := by decide +kernel
theorem dX2_decidedPackets_23 : decode cX2_decidedPackets 23 = .ok (.iconst 0, 1) := by decide +kernel
theorem dX2_decidedPackets_24 : decode cX2_decidedPackets 24 = .ok (.istore 5, 2) := by decide +kernel
theorem dX2_decidedPackets_26 : decode cX2_decidedPackets 26 = .ok (.iload 5, 2) := by decide +kernel
theorem dX2_decidedPackets_28 : decode cX2_decidedPackets 28 = .ok (.iconst 4, 1) := by decide +kernel
theorem dX2_decidedPackets_29 : decode cX2_decidedPackets 29 = .ok (.if_icmp .ge 48, 3) := by decide +kernel
theorem dX2_decidedPackets_32 : decode cX2_decidedPackets 32 = .ok (.aload_n 1, 1) := by decide +kernel
theorem dX2_decidedPackets_33 : decode cX2_decidedPackets 33 = .ok (.getfield 87, 3) := by decide +kernel
theorem dX2_decidedPackets_36 : decode cX2_decidedPackets 36 = .ok (.iload 5, 2) := by decide +kernel
theorem dX2_decidedPackets_38 : decode cX2_decidedPackets 38 = .ok (.invokestatic 202, 3) := by decide +kernel
theorem dX2_decidedPackets_41 : decode cX2_decidedPackets 41 = .ok (.ifCond .eq 30, 3) := by decide +kernel
theorem dX2_decidedPackets_44 : decode cX2_decidedPackets 44 = .ok (.aload_n 1, 1) := by decide +kernel
theorem dX2_decidedPackets_45 : decode cX2_decidedPackets 45 = .ok (.getfield 84, 3) := by decide +kernel
theorem dX2_decidedPackets_48 : decode cX2_decidedPackets 48 = .ok (.getfield 174, 3) := by decide +kernel
theorem dX2_decidedPackets_51 : decode cX2_decidedPackets 51 = .ok (.aload_n 0, 1) := by decide +kernel
theorem dX2_decidedPackets_52 : decode cX2_decidedPackets 52 = .ok (.iload 4, 2) := by decide +kernel
theorem dX2_decidedPackets_54 : decode cX2_decidedPackets 54 = .ok (.iload 5, 2) := by decide +kernel
theorem dX2_decidedPackets_56 : decode cX2_decidedPackets 56 = .ok (.iload_n 2, 1) := by decide +kernel
theorem dX2_decidedPackets_57 : decode cX2_decidedPackets 57 = .ok (.invokevirtual 205, 3) := by decide +kernel
theorem dX2_decidedPackets_60 : decode cX2_decidedPackets 60 = .ok (.iand, 1) := by decide +kernel
theorem dX2_decidedPackets_61 : decode cX2_decidedPackets 61 = .ok (.istore 6, 2) := by decide +kernel
theorem dX2_decidedPackets_63 : decode cX2_decidedPackets 63 = .ok (.iload_n 3, 1) := by decide +kernel
theorem dX2_decidedPackets_64 : decode cX2_decidedPackets 64 = .ok (.iload 6, 2) := by decide +kernel
theorem dX2_decidedPackets_66 : decode cX2_decidedPackets 66 = .ok (.invokestatic 144, 3) := by decide +kernel
theorem dX2_decidedPackets_69 : decode cX2_decidedPackets 69 = .ok (.iadd, 1) := by decide +kernel
theorem dX2_decidedPackets_70 : decode cX2_decidedPackets 70 = .ok (.istore_n 3, 1) := by decide +kernel
theorem dX2_decidedPackets_71 : decode cX2_decidedPackets 71 = .ok (.iinc 5 1, 3) := by decide +kernel
theorem dX2_decidedPackets_74 : decode cX2_decidedPackets 74 = .ok (.goto (-48), 3) := by decide +kernel
theorem dX2_decidedPackets_77 : decode cX2_decidedPackets 77 = .ok (.iinc 4 1, 3) := by decide +kernel
theorem dX2_decidedPackets_80 : decode cX2_decidedPackets 80 = .ok (.goto (-69), 3) := by decide +kernel
theorem dX2_decidedPackets_83 : decode cX2_decidedPackets 83 = .ok (.iload_n 3, 1) := by decide +kernel
theorem dX2_decidedPackets_84 : decode cX2_decidedPackets 84 = .ok (.ireturn, 1) := by decide +kernel
set_option maxRecDepth 20000 in
theorem ggX2_isNeedless_X2_holds : GoodIn wsX2_isNeedless wsX2_holds := goodIn_r _ [8] (by decide +kernel) (by decide +kernel)
set_option maxRecDepth 20000 in
theorem gX2_isNeedless_X2_holds : GoodIn wsX2_isNeedless (va_wsS RX2 202 yX2_holds wsX2_holds) := goodIn_app (goodIn_of _ (by decide +kernel)) ggX2_isNeedless_X2_holds
set_option maxRecDepth 20000 in
theorem ggX2_isNeedless_X2_permittedDestinations : GoodIn wsX2_isNeedless wsX2_permittedDestinations := goodIn_r _ [12, 13, 14, 15, 16, 17, 18, 19, 20, 21, 22, 23, 24, 25, 26, 27, 28, 29, 30, 31, 32, 33, 34, 35, 36, 37, 38, 39, 40, 41, 42, 43, 44, 45, 46, 47, 48, 49, 50, 51, 52, 53, 54, 6, 7, 8, 63, 64, 65, 66, 67, 55, 56, 57, 58, 59, 60, 61, 62, 68, 69, 70] (by decide +kernel) (by decide +kernel)
set_option maxRecDepth 20000 in
theorem gX2_isNeedless_X2_permittedDestinations : GoodIn wsX2_isNeedless (wsV RX2 141 RX2 yX2_permittedDestinations wsX2_permittedDestinations) := goodIn_app (goodIn_of _ (by decide +kernel)) ggX2_isNeedless_X2_permittedDestinations
theorem dX2_isNeedless_0 : decode cX2_isNeedless 0 = .ok (.aload_n 1, 1) := by decide +kernel
theorem dX2_isNeedless_1 : decode cX2_isNeedless 1 = .ok (.getfield 77, 3) := by decide +kernel
theorem dX2_isNeedless_4 : decode cX2_isNeedless 4 = .ok (.getfield 196, 3) := by decide +kernel
theorem dX2_isNeedless_7 : decode cX2_isNeedless 7 = .ok (.istore_n 3, 1) := by decide +kernel
theorem dX2_isNeedless_8 : decode cX2_isNeedless 8 = .ok (.iload_n 3, 1) := by decide +kernel
theorem dX2_isNeedless_9 : decode cX2_isNeedless 9 = .ok (.aload_n 1, 1) := by decide +kernel
theorem dX2_isNeedless_10 : decode cX2_isNeedless 10 = .ok (.getfield 77, 3) := by decide +kernel
theorem dX2_isNeedless_13 : decode cX2_isNeedless 13 = .ok (.getfield 199, 3) := by decide +kernel
theorem dX2_isNeedless_16 : decode cX2_isNeedless 16 = .ok (.if_icmp .gt 57, 3) := by decide +kernel
theorem dX2_isNeedless_19 : decode cX2_isNeedless 19 = .ok (.iconst 0, 1) := by decide +kernel
theorem dX2_isNeedless_20 : decode cX2_isNeedless 20 = .ok (.istore 4, 2) := by decide +kernel
theorem dX2_isNeedless_22 : decode cX2_isNeedless 22 = .ok (.iload 4, 2) := by decide +kernel
theorem dX2_isNeedless_24 : decode cX2_isNeedless 24 = .ok (.iconst 4, 1) := by decide +kernel
theorem dX2_isNeedless_25 : decode cX2_isNeedless 25 = .ok (.if_icmp .ge 42, 3) := by decide +kernel
theorem dX2_isNeedless_28 : decode cX2_isNeedless 28 = .ok (.aload_n 1, 1) := by decide +kernel
theorem dX2_isNeedless_29 : decode cX2_isNeedless 29 = .ok (.getfield 87, 3) := by decide +kernel
theorem dX2_isNeedless_32 : decode cX2_isNeedless 32 = .ok (.iload 4, 2) := by decide +kernel
theorem dX2_isNeedless_34 : decode cX2_isNeedless 34 = .ok (.invokestatic 202, 3) := by decide +kernel
theorem dX2_isNeedless_37 : decode cX2_isNeedless 37 = .ok (.ifCond .eq 24, 3) := by decide +kernel
theorem dX2_isNeedless_40 : decode cX2_isNeedless 40 = .ok (.aload_n 0, 1) := by decide +kernel
theorem dX2_isNeedless_41 : decode cX2_isNeedless 41 = .ok (.iload_n 3, 1) := by decide +kernel
theorem dX2_isNeedless_42 : decode cX2_isNeedless 42 = .ok (.iload 4, 2) := by decide +kernel
theorem dX2_isNeedless_44 : decode cX2_isNeedless 44 = .ok (.iconst (-1), 1) := by decide +kernel
theorem dX2_isNeedless_45 : decode cX2_isNeedless 45 = .ok (.invokevirtual 141, 3) := by decide +kernel
theorem dX2_isNeedless_48 : decode cX2_isNeedless 48 = .ok (.aload_n 0, 1) := by decide +kernel
theorem dX2_isNeedless_49 : decode cX2_isNeedless 49 = .ok (.iload_n 3, 1) := by decide +kernel
theorem dX2_isNeedless_50 : decode cX2_isNeedless 50 = .ok (.iload 4, 2) := by decide +kernel
theorem dX2_isNeedless_52 : decode cX2_isNeedless 52 = .ok (.iload_n 2, 1) := by decide +kernel
theorem dX2_isNeedless_53 : decode cX2_isNeedless 53 = .ok (.invokevirtual 141, 3) := by decide +kernel
theorem dX2_isNeedless_56 : decode cX2_isNeedless 56 = .ok (.if_icmp .eq 5, 3) := by decide +kernel
theorem dX2_isNeedless_59 : decode cX2_isNeedless 59 = .ok (.iconst 0, 1) := by decide +kernel
theorem dX2_isNeedless_60 : decode cX2_isNeedless 60 = .ok (.ireturn, 1) := by decide +kernel
theorem dX2_isNeedless_61 : decode cX2_isNeedless 61 = .ok (.iinc 4 1, 3) := by decide +kernel
theorem dX2_isNeedless_64 : decode cX2_isNeedless 64 = .ok (.goto (-42), 3) := by decide +kernel
theorem dX2_isNeedless_67 : decode cX2_isNeedless 67 = .ok (.iinc 3 1, 3) := by decide +kernel
theorem dX2_isNeedless_70 : decode cX2_isNeedless 70 = .ok (.goto (-62), 3) := by decide +kernel
theorem dX2_isNeedless_73 : decode cX2_isNeedless 73 = .ok (.iconst 1, 1) := by decide +kernel
theorem dX2_isNeedless_74 : decode cX2_isNeedless 74 = .ok (.ireturn, 1) := by decide +kernel
set_option maxRecDepth 20000 in
theorem ggX2_notePermitted_X2_permittedDestinations : GoodIn wsX2_notePermitted wsX2_permittedDestinations := goodIn_r _ [6, 7, 8, 9, 10, 11, 12, 13, 14, 15, 16, 17, 18, 19, 20, 21, 22, 23, 24, 25, 26, 27, 28, 29, 30, 31, 32, 33, 34, 35, 36, 37, 38, 39, 40, 41, 42, 43, 44, 45, 46, 47, 48, 49, 5, 50, 51, 52, 53, 54, 55, 56, 57, 58, 59, 60, 61, 62, 63, 64, 65, 66] (by decide +kernel) (by decide +kernel)
set_option maxRecDepth 20000 in
theorem gX2_notePermitted_X2_permittedDestinations : GoodIn wsX2_notePermitted (wsV RX2 141 RX2 yX2_permittedDestinations wsX2_permittedDestinations) := goodIn_app (goodIn_of _ (by decide +kernel)) ggX2_notePermitted_X2_permittedDestinations
theorem dX2_notePermitted_0 : decode cX2_notePermitted 0 = .ok (.iconst 0, 1) := by decide +kernel
theorem dX2_notePermitted_1 : decode cX2_notePermitted 1 = .ok (.istore_n 1, 1) := by decide +kernel
theorem dX2_notePermitted_2 : decode cX2_notePermitted 2 = .ok (.iload_n 1, 1) := by decide +kernel
theorem dX2_notePermitted_3 : decode cX2_notePermitted 3 = .ok (.aload_n 0, 1) := by decide +kernel
theorem dX2_notePermitted_4 : decode cX2_notePermitted 4 = .ok (.getfield 16, 3) := by decide +kernel
theorem dX2_notePermitted_7 : decode cX2_notePermitted 7 = .ok (.arraylength, 1) := by decide +kernel
theorem dX2_notePermitted_8 : decode cX2_notePermitted 8 = .ok (.if_icmp .ge 26, 3) := by decide +kernel
theorem dX2_notePermitted_11 : decode cX2_notePermitted 11 = .ok (.aload_n 0, 1) := by decide +kernel
theorem dX2_notePermitted_12 : decode cX2_notePermitted 12 = .ok (.getfield 16, 3) := by decide +kernel
theorem dX2_notePermitted_15 : decode cX2_notePermitted 15 = .ok (.iload_n 1, 1) := by decide +kernel
theorem dX2_notePermitted_16 : decode cX2_notePermitted 16 = .ok (.aload_n 0, 1) := by decide +kernel
theorem dX2_notePermitted_17 : decode cX2_notePermitted 17 = .ok (.iload_n 1, 1) := by decide +kernel
theorem dX2_notePermitted_18 : decode cX2_notePermitted 18 = .ok (.iconst 4, 1) := by decide +kernel
theorem dX2_notePermitted_19 : decode cX2_notePermitted 19 = .ok (.idiv, 1) := by decide +kernel
theorem dX2_notePermitted_20 : decode cX2_notePermitted 20 = .ok (.iload_n 1, 1) := by decide +kernel
theorem dX2_notePermitted_21 : decode cX2_notePermitted 21 = .ok (.iconst 4, 1) := by decide +kernel
theorem dX2_notePermitted_22 : decode cX2_notePermitted 22 = .ok (.irem, 1) := by decide +kernel
theorem dX2_notePermitted_23 : decode cX2_notePermitted 23 = .ok (.iconst (-1), 1) := by decide +kernel
theorem dX2_notePermitted_24 : decode cX2_notePermitted 24 = .ok (.invokevirtual 141, 3) := by decide +kernel
theorem dX2_notePermitted_27 : decode cX2_notePermitted 27 = .ok (.iastore, 1) := by decide +kernel
theorem dX2_notePermitted_28 : decode cX2_notePermitted 28 = .ok (.iinc 1 1, 3) := by decide +kernel
theorem dX2_notePermitted_31 : decode cX2_notePermitted 31 = .ok (.goto (-29), 3) := by decide +kernel
theorem dX2_notePermitted_34 : decode cX2_notePermitted 34 = .ok (.return_, 1) := by decide +kernel
set_option maxRecDepth 20000 in
theorem ggX2_changedSinceNoted_X2_permittedDestinations : GoodIn wsX2_changedSinceNoted wsX2_permittedDestinations := goodIn_r _ [6, 7, 8, 9, 10, 11, 12, 13, 14, 15, 16, 17, 18, 19, 20, 21, 22, 23, 24, 25, 26, 27, 28, 29, 30, 31, 32, 33, 34, 35, 36, 37, 38, 39, 40, 41, 42, 43, 44, 45, 46, 47, 48, 49, 5, 50, 58, 59, 60, 61, 62, 63, 64, 65, 66, 67, 68, 69, 70, 71, 72, 73] (by decide +kernel) (by decide +kernel)
set_option maxRecDepth 20000 in
theorem gX2_changedSinceNoted_X2_permittedDestinations : GoodIn wsX2_changedSinceNoted (wsV RX2 141 RX2 yX2_permittedDestinations wsX2_permittedDestinations) := goodIn_app (goodIn_of _ (by decide +kernel)) ggX2_changedSinceNoted_X2_permittedDestinations
set_option maxRecDepth 20000 in
theorem ggX2_changedSinceNoted_J6_bitCount_0f7a4 : GoodIn wsX2_changedSinceNoted wsJ6_bitCount_0f7a4 := goodIn_r _ [54, 55, 56, 57] (by decide +kernel) (by decide +kernel)
set_option maxRecDepth 20000 in
theorem gX2_changedSinceNoted_J6_bitCount_0f7a4 : GoodIn wsX2_changedSinceNoted (va_wsS RX2 144 yJ6_bitCount_0f7a4 wsJ6_bitCount_0f7a4) := goodIn_app (goodIn_of _ (by decide +kernel)) ggX2_changedSinceNoted_J6_bitCount_0f7a4
theorem dX2_changedSinceNoted_0 : decode cX2_changedSinceNoted 0 = .ok (.iconst 0, 1) := by decide +kernel
theorem dX2_changedSinceNoted_1 : decode cX2_changedSinceNoted 1 = .ok (.istore_n 1, 1) := by decide +kernel
theorem dX2_changedSinceNoted_2 : decode cX2_changedSinceNoted 2 = .ok (.iconst 0, 1) := by decide +kernel
theorem dX2_changedSinceNoted_3 : decode cX2_changedSinceNoted 3 = .ok (.istore_n 2, 1) := by decide +kernel
theorem dX2_changedSinceNoted_4 : decode cX2_changedSinceNoted 4 = .ok (.iload_n 2, 1) := by decide +kernel
theorem dX2_changedSinceNoted_5 : decode cX2_changedSinceNoted 5 = .ok (.aload_n 0, 1) := by decide +kernel
theorem dX2_changedSinceNoted_6 : decode cX2_changedSinceNoted 6 = .ok (.getfield 16, 3) := by decide +kernel
theorem dX2_changedSinceNoted_9 : decode cX2_changedSinceNoted 9 = .ok (.arraylength, 1) := by decide +kernel
theorem dX2_changedSinceNoted_10 : decode cX2_changedSinceNoted 10 = .ok (.if_icmp .ge 35, 3) := by decide +kernel
theorem dX2_changedSinceNoted_13 : decode cX2_changedSinceNoted 13 = .ok (.aload_n 0, 1) := by decide +kernel
theorem dX2_changedSinceNoted_14 : decode cX2_changedSinceNoted 14 = .ok (.iload_n 2, 1) := by decide +kernel
theorem dX2_changedSinceNoted_15 : decode cX2_changedSinceNoted 15 = .ok (.iconst 4, 1) := by decide +kernel
theorem dX2_changedSinceNoted_16 : decode cX2_changedSinceNoted 16 = .ok (.idiv, 1) := by decide +kernel
theorem dX2_changedSinceNoted_17 : decode cX2_changedSinceNoted 17 = .ok (.iload_n 2, 1) := by decide +kernel
theorem dX2_changedSinceNoted_18 : decode cX2_changedSinceNoted 18 = .ok (.iconst 4, 1) := by decide +kernel
theorem dX2_changedSinceNoted_19 : decode cX2_changedSinceNoted 19 = .ok (.irem, 1) := by decide +kernel
theorem dX2_changedSinceNoted_20 : decode cX2_changedSinceNoted 20 = .ok (.iconst (-1), 1) := by decide +kernel
theorem dX2_changedSinceNoted_21 : decode cX2_changedSinceNoted 21 = .ok (.invokevirtual 141, 3) := by decide +kernel
theorem dX2_changedSinceNoted_24 : decode cX2_changedSinceNoted 24 = .ok (.istore_n 3, 1) := by decide +kernel
theorem dX2_changedSinceNoted_25 : decode cX2_changedSinceNoted 25 = .ok (.iload_n 1, 1) := by decide +kernel
theorem dX2_changedSinceNoted_26 : decode cX2_changedSinceNoted 26 = .ok (.aload_n 0, 1) := by decide +kernel
theorem dX2_changedSinceNoted_27 : decode cX2_changedSinceNoted 27 = .ok (.getfield 16, 3) := by decide +kernel
theorem dX2_changedSinceNoted_30 : decode cX2_changedSinceNoted 30 = .ok (.iload_n 2, 1) := by decide +kernel
theorem dX2_changedSinceNoted_31 : decode cX2_changedSinceNoted 31 = .ok (.iaload, 1) := by decide +kernel
theorem dX2_changedSinceNoted_32 : decode cX2_changedSinceNoted 32 = .ok (.iload_n 3, 1) := by decide +kernel
theorem dX2_changedSinceNoted_33 : decode cX2_changedSinceNoted 33 = .ok (.ixor, 1) := by decide +kernel
theorem dX2_changedSinceNoted_34 : decode cX2_changedSinceNoted 34 = .ok (.invokestatic 144, 3) := by decide +kernel
theorem dX2_changedSinceNoted_37 : decode cX2_changedSinceNoted 37 = .ok (.iadd, 1) := by decide +kernel
theorem dX2_changedSinceNoted_38 : decode cX2_changedSinceNoted 38 = .ok (.istore_n 1, 1) := by decide +kernel
theorem dX2_changedSinceNoted_39 : decode cX2_changedSinceNoted 39 = .ok (.iinc 2 1, 3) := by decide +kernel
theorem dX2_changedSinceNoted_42 : decode cX2_changedSinceNoted 42 = .ok (.goto (-38), 3) := by decide +kernel
theorem dX2_changedSinceNoted_45 : decode cX2_changedSinceNoted 45 = .ok (.iload_n 1, 1) := by decide +kernel
theorem dX2_changedSinceNoted_46 : decode cX2_changedSinceNoted 46 = .ok (.ireturn, 1) := by decide +kernel
set_option maxRecDepth 20000 in
theorem ggX2_dropLastNeedless_Jx4a65c_size_8abf5 : GoodIn wsX2_dropLastNeedless wsJx4a65c_size_8abf5 := goodIn_r _ [7, 8, 78, 79, 80] (by decide +kernel) (by decide +kernel)
set_option maxRecDepth 20000 in
theorem gX2_dropLastNeedless_Jx4a65c_size_8abf5 : GoodIn wsX2_dropLastNeedless (wsV RX2 33 RJx4a65c yJx4a65c_size_8abf5 wsJx4a65c_size_8abf5) := goodIn_app (goodIn_of _ (by decide +kernel)) ggX2_dropLastNeedless_Jx4a65c_size_8abf5
set_option maxRecDepth 20000 in
theorem ggX2_dropLastNeedless_Jx4a65c_get_915e3 : GoodIn wsX2_dropLastNeedless wsJx4a65c_get_915e3 := goodIn_r _ [12, 8, 13, 14, 15, 16, 17, 18, 19, 20, 21, 22, 23, 6, 24, 25, 78, 79, 80] (by decide +kernel) (by decide +kernel)
set_option maxRecDepth 20000 in
theorem gX2_dropLastNeedless_Jx4a65c_get_915e3 : GoodIn wsX2_dropLastNeedless (wsV RX2 112 RJx4a65c yJx4a65c_get_915e3 wsJx4a65c_get_915e3) := goodIn_app (goodIn_of _ (by decide +kernel)) ggX2_dropLastNeedless_Jx4a65c_get_915e3
set_option maxRecDepth 20000 in
theorem ggX2_dropLastNeedless_X2_isNeedless : GoodIn wsX2_dropLastNeedless wsX2_isNeedless := goodIn_r _ [30, 31, 32, 33, 34, 35, 36, 29, 37, 38, 39, 40, 41, 1, 2, 42, 43, 44, 3, 4, 5, 6, 7, 8, 9, 10, 11, 12, 13, 14, 15, 16, 17, 18, 19, 20, 21, 22, 23, 24, 25, 45, 46, 47, 48, 49, 50, 51, 52, 53, 54, 55, 56, 57, 58, 81, 82, 83, 84, 85, 86, 87, 88, 73, 74, 75, 76, 77, 78, 79, 80] (by decide +kernel) (by decide +kernel)
set_option maxRecDepth 20000 in
theorem gX2_dropLastNeedless_X2_isNeedless : GoodIn wsX2_dropLastNeedless (wsV RX2 137 RX2 yX2_isNeedless wsX2_isNeedless) := goodIn_app (goodIn_of _ (by decide +kernel)) ggX2_dropLastNeedless_X2_isNeedless
set_option maxRecDepth 20000 in
theorem ggX2_dropLastNeedless_Jx4a65c_remove_915e3 : GoodIn wsX2_dropLastNeedless wsJx4a65c_remove_915e3 := goodIn_r _ [62, 8, 25, 13, 14, 15, 16, 17, 18, 19, 20, 63, 64, 65, 6, 66, 67, 68, 69, 70, 71, 72, 78, 79, 80] (by decide +kernel) (by decide +kernel)
set_option maxRecDepth 20000 in
theorem gX2_dropLastNeedless_Jx4a65c_remove_915e3 : GoodIn wsX2_dropLastNeedless (wsV RX2 63 RJx4a65c yJx4a65c_remove_915e3 wsJx4a65c_remove_915e3) := goodIn_app (goodIn_of _ (by decide +kernel)) ggX2_dropLastNeedless_Jx4a65c_remove_915e3
theorem dX2_dropLastNeedless_0 : decode cX2_dropLastNeedless 0 = .ok (.aload_n 0, 1) := by decide +kernel
theorem dX2_dropLastNeedless_1 : decode cX2_dropLastNeedless 1 = .ok (.getfield 10, 3) := by decide +kernel
theorem dX2_dropLastNeedless_4 : decode cX2_dropLastNeedless 4 = .ok (.invokevirtual 33, 3) := by decide +kernel
theorem dX2_dropLastNeedless_7 : decode cX2_dropLastNeedless 7 = .ok (.iconst 1, 1) := by decide +kernel
theorem dX2_dropLastNeedless_8 : decode cX2_dropLastNeedless 8 = .ok (.isub, 1) := by decide +kernel
theorem dX2_dropLastNeedless_9 : decode cX2_dropLastNeedless 9 = .ok (.istore_n 1, 1) := by decide +kernel
theorem dX2_dropLastNeedless_10 : decode cX2_dropLastNeedless 10 = .ok (.iload_n 1, 1) := by decide +kernel
theorem dX2_dropLastNeedless_11 : decode cX2_dropLastNeedless 11 = .ok (.ifCond .lt 39, 3) := by decide +kernel
theorem dX2_dropLastNeedless_14 : decode cX2_dropLastNeedless 14 = .ok (.aload_n 0, 1) := by decide +kernel
theorem dX2_dropLastNeedless_15 : decode cX2_dropLastNeedless 15 = .ok (.aload_n 0, 1) := by decide +kernel
theorem dX2_dropLastNeedless_16 : decode cX2_dropLastNeedless 16 = .ok (.getfield 10, 3) := by decide +kernel
theorem dX2_dropLastNeedless_19 : decode cX2_dropLastNeedless 19 = .ok (.iload_n 1, 1) := by decide +kernel
theorem dX2_dropLastNeedless_20 : decode cX2_dropLastNeedless 20 = .ok (.invokevirtual 112, 3) := by decide +kernel
theorem dX2_dropLastNeedless_23 : decode cX2_dropLastNeedless 23 = .ok (.checkcast 47, 3) := by decide +kernel
theorem dX2_dropLastNeedless_26 : decode cX2_dropLastNeedless 26 = .ok (.iload_n 1, 1) := by decide +kernel
theorem dX2_dropLastNeedless_27 : decode cX2_dropLastNeedless 27 = .ok (.invokevirtual 137, 3) := by decide +kernel
theorem dX2_dropLastNeedless_30 : decode cX2_dropLastNeedless 30 = .ok (.ifCond .eq 14, 3) := by decide +kernel
theorem dX2_dropLastNeedless_33 : decode cX2_dropLastNeedless 33 = .ok (.aload_n 0, 1) := by decide +kernel
theorem dX2_dropLastNeedless_34 : decode cX2_dropLastNeedless 34 = .ok (.getfield 10, 3) := by decide +kernel
theorem dX2_dropLastNeedless_37 : decode cX2_dropLastNeedless 37 = .ok (.iload_n 1, 1) := by decide +kernel
theorem dX2_dropLastNeedless_38 : decode cX2_dropLastNeedless 38 = .ok (.invokevirtual 63, 3) := by decide +kernel
theorem dX2_dropLastNeedless_41 : decode cX2_dropLastNeedless 41 = .ok (.pop, 1) := by decide +kernel
theorem dX2_dropLastNeedless_42 : decode cX2_dropLastNeedless 42 = .ok (.iconst 1, 1) := by decide +kernel
theorem dX2_dropLastNeedless_43 : decode cX2_dropLastNeedless 43 = .ok (.ireturn, 1) := by decide +kernel
theorem dX2_dropLastNeedless_44 : decode cX2_dropLastNeedless 44 = .ok (.iinc 1 (-1), 3) := by decide +kernel
theorem dX2_dropLastNeedless_47 : decode cX2_dropLastNeedless 47 = .ok (.goto (-37), 3) := by decide +kernel
theorem dX2_dropLastNeedless_50 : decode cX2_dropLastNeedless 50 = .ok (.iconst 0, 1) := by decide +kernel
theorem dX2_dropLastNeedless_51 : decode cX2_dropLastNeedless 51 = .ok (.ireturn, 1) := by decide +kernel
set_option maxRecDepth 20000 in
theorem ggX2_mergeFirstNeighbours_Jx4a65c_size_8abf5 : GoodIn wsX2_mergeFirstNeighbours wsJx4a65c_size_8abf5 := goodIn_r _ [7, 8, 97, 98, 99] (by decide +kernel) (by decide +kernel)
set_option maxRecDepth 20000 in
theorem gX2_mergeFirstNeighbours_Jx4a65c_size_8abf5 : GoodIn wsX2_mergeFirstNeighbours (wsV RX2 33 RJx4a65c yJx4a65c_size_8abf5 wsJx4a65c_size_8abf5) := goodIn_app (goodIn_of _ (by decide +kernel)) ggX2_mergeFirstNeighbours_Jx4a65c_size_8abf5
set_option maxRecDepth 20000 in
theorem ggX2_mergeFirstNeighbours_Jx4a65c_get_915e3 : GoodIn wsX2_mergeFirstNeighbours wsJx4a65c_get_915e3 := goodIn_r _ [12, 8, 13, 14, 15, 16, 17, 18, 19, 20, 21, 22, 23, 6, 24, 25, 97, 98, 99] (by decide +kernel) (by decide +kernel)
set_option maxRecDepth 20000 in
theorem gX2_mergeFirstNeighbours_Jx4a65c_get_915e3 : GoodIn wsX2_mergeFirstNeighbours (wsV RX2 112 RJx4a65c yJx4a65c_get_915e3 wsJx4a65c_get_915e3) := goodIn_app (goodIn_of _ (by decide +kernel)) ggX2_mergeFirstNeighbours_Jx4a65c_get_915e3
set_option maxRecDepth 20000 in
theorem ggX2_mergeFirstNeighbours_X1_isMergeable : GoodIn wsX2_mergeFirstNeighbours wsX1_isMergeable := goodIn_r _ [30, 31, 32, 33, 34, 35, 36, 29, 37, 38, 39, 40, 41, 42, 43, 44, 45, 46, 47, 48, 49, 100, 101, 102, 103, 104, 105, 106, 107] (by decide +kernel) (by decide +kernel)
set_option maxRecDepth 20000 in
theorem gX2_mergeFirstNeighbours_X1_isMergeable : GoodIn wsX2_mergeFirstNeighbours (wsV RX2 155 RX1 yX1_isMergeable wsX1_isMergeable) := goodIn_app (goodIn_of _ (by decide +kernel)) ggX2_mergeFirstNeighbours_X1_isMergeable
set_option maxRecDepth 20000 in
theorem ggX2_mergeFirstNeighbours_X1_absorb : GoodIn wsX2_mergeFirstNeighbours wsX1_absorb := goodIn_r _ [53, 32, 33, 38, 54, 55, 56, 57, 42, 58, 59, 60, 44, 61, 62, 63, 64, 45, 65, 66, 67, 68, 69, 70, 71, 72, 73, 74, 75, 76, 77, 100, 101, 102, 103, 104, 105, 106, 107] (by decide +kernel) (by decide +kernel)
set_option maxRecDepth 20000 in
theorem gX2_mergeFirstNeighbours_X1_absorb : GoodIn wsX2_mergeFirstNeighbours (wsV RX2 208 RX1 yX1_absorb wsX1_absorb) := goodIn_app (goodIn_of _ (by decide +kernel)) ggX2_mergeFirstNeighbours_X1_absorb
set_option maxRecDepth 20000 in
theorem ggX2_mergeFirstNeighbours_Jx4a65c_remove_915e3 : GoodIn wsX2_mergeFirstNeighbours wsJx4a65c_remove_915e3 := goodIn_r _ [81, 8, 25, 13, 14, 15, 16, 17, 18, 19, 20, 82, 83, 84, 6, 85, 86, 87, 88, 89, 90, 91, 97, 98, 99] (by decide +kernel) (by decide +kernel)
set_option maxRecDepth 20000 in
theorem gX2_mergeFirstNeighbours_Jx4a65c_remove_915e3 : GoodIn wsX2_mergeFirstNeighbours (wsV RX2 63 RJx4a65c yJx4a65c_remove_915e3 wsJx4a65c_remove_915e3) := goodIn_app (goodIn_of _ (by decide +kernel)) ggX2_mergeFirstNeighbours_Jx4a65c_remove_915e3
theorem dX2_mergeFirstNeighbours_0 : decode cX2_mergeFirstNeighbours 0 = .ok (.iconst 0, 1) := by decide +kernel
theorem dX2_mergeFirstNeighbours_1 : decode cX2_mergeFirstNeighbours 1 = .ok (.istore_n 1, 1) := by decide +kernel
theorem dX2_mergeFirstNeighbours_2 : decode cX2_mergeFirstNeighbours 2 = .ok (.iload_n 1, 1) := by decide +kernel
theorem dX2_mergeFirstNeighbours_3 : decode cX2_mergeFirstNeighbours 3 = .ok (.aload_n 0, 1) := by decide +kernel
theorem dX2_mergeFirstNeighbours_4 : decode cX2_mergeFirstNeighbours 4 = .ok (.getfield 10, 3) := by decide +kernel
theorem dX2_mergeFirstNeighbours_7 : decode cX2_mergeFirstNeighbours 7 = .ok (.invokevirtual 33, 3) := by decide +kernel
theorem dX2_mergeFirstNeighbours_10 : decode cX2_mergeFirstNeighbours 10 = .ok (.iconst 1, 1) := by decide +kernel
theorem dX2_mergeFirstNeighbours_11 : decode cX2_mergeFirstNeighbours 11 = .ok (.isub, 1) := by decide +kernel
theorem dX2_mergeFirstNeighbours_12 : decode cX2_mergeFirstNeighbours 12 = .ok (.if_icmp .ge 61, 3) := by decide +kernel
theorem dX2_mergeFirstNeighbours_15 : decode cX2_mergeFirstNeighbours 15 = .ok (.aload_n 0, 1) := by decide +kernel
theorem dX2_mergeFirstNeighbours_16 : decode cX2_mergeFirstNeighbours 16 = .ok (.getfield 10, 3) := by decide +kernel
theorem dX2_mergeFirstNeighbours_19 : decode cX2_mergeFirstNeighbours 19 = .ok (.iload_n 1, 1) := by decide +kernel
theorem dX2_mergeFirstNeighbours_20 : decode cX2_mergeFirstNeighbours 20 = .ok (.invokevirtual 112, 3) := by decide +kernel
theorem dX2_mergeFirstNeighbours_23 : decode cX2_mergeFirstNeighbours 23 = .ok (.checkcast 47, 3) := by decide +kernel
theorem dX2_mergeFirstNeighbours_26 : decode cX2_mergeFirstNeighbours 26 = .ok (.astore_n 2, 1) := by decide +kernel
theorem dX2_mergeFirstNeighbours_27 : decode cX2_mergeFirstNeighbours 27 = .ok (.aload_n 0, 1) := by decide +kernel
theorem dX2_mergeFirstNeighbours_28 : decode cX2_mergeFirstNeighbours 28 = .ok (.getfield 10, 3) := by decide +kernel
theorem dX2_mergeFirstNeighbours_31 : decode cX2_mergeFirstNeighbours 31 = .ok (.iload_n 1, 1) := by decide +kernel
theorem dX2_mergeFirstNeighbours_32 : decode cX2_mergeFirstNeighbours 32 = .ok (.iconst 1, 1) := by decide +kernel
theorem dX2_mergeFirstNeighbours_33 : decode cX2_mergeFirstNeighbours 33 = .ok (.iadd, 1) := by decide +kernel
theorem dX2_mergeFirstNeighbours_34 : decode cX2_mergeFirstNeighbours 34 = .ok (.invokevirtual 112, 3) := by decide +kernel
theorem dX2_mergeFirstNeighbours_37 : decode cX2_mergeFirstNeighbours 37 = .ok (.checkcast 47, 3) := by decide +kernel
theorem dX2_mergeFirstNeighbours_40 : decode cX2_mergeFirstNeighbours 40 = .ok (.astore_n 3, 1) := by decide +kernel
theorem dX2_mergeFirstNeighbours_41 : decode cX2_mergeFirstNeighbours 41 = .ok (.aload_n 2, 1) := by decide +kernel
theorem dX2_mergeFirstNeighbours_42 : decode cX2_mergeFirstNeighbours 42 = .ok (.aload_n 3, 1) := by decide +kernel
theorem dX2_mergeFirstNeighbours_43 : decode cX2_mergeFirstNeighbours 43 = .ok (.invokevirtual 155, 3) := by decide +kernel
theorem dX2_mergeFirstNeighbours_46 : decode cX2_mergeFirstNeighbours 46 = .ok (.ifCond .eq 21, 3) := by decide +kernel
theorem dX2_mergeFirstNeighbours_49 : decode cX2_mergeFirstNeighbours 49 = .ok (.aload_n 2, 1) := by decide +kernel
theorem dX2_mergeFirstNeighbours_50 : decode cX2_mergeFirstNeighbours 50 = .ok (.aload_n 3, 1) := by decide +kernel
theorem dX2_mergeFirstNeighbours_51 : decode cX2_mergeFirstNeighbours 51 = .ok (.invokevirtual 208, 3) := by decide +kernel
theorem dX2_mergeFirstNeighbours_54 : decode cX2_mergeFirstNeighbours 54 = .ok (.aload_n 0, 1) := by decide +kernel
theorem dX2_mergeFirstNeighbours_55 : decode cX2_mergeFirstNeighbours 55 = .ok (.getfield 10, 3) := by decide +kernel
theorem dX2_mergeFirstNeighbours_58 : decode cX2_mergeFirstNeighbours 58 = .ok (.iload_n 1, 1) := by decide +kernel
theorem dX2_mergeFirstNeighbours_59 : decode cX2_mergeFirstNeighbours 59 = .ok (.iconst 1, 1) := by decide +kernel
theorem dX2_mergeFirstNeighbours_60 : decode cX2_mergeFirstNeighbours 60 = .ok (.iadd, 1) := by decide +kernel
theorem dX2_mergeFirstNeighbours_61 : decode cX2_mergeFirstNeighbours 61 = .ok (.invokevirtual 63, 3) := by decide +kernel
theorem dX2_mergeFirstNeighbours_64 : decode cX2_mergeFirstNeighbours 64 = .ok (.pop, 1) := by decide +kernel
theorem dX2_mergeFirstNeighbours_65 : decode cX2_mergeFirstNeighbours 65 = .ok (.iconst 1, 1) := by decide +kernel
theorem dX2_mergeFirstNeighbours_66 : decode cX2_mergeFirstNeighbours 66 = .ok (.ireturn, 1) := by decide +kernel
theorem dX2_mergeFirstNeighbours_67 : decode cX2_mergeFirstNeighbours 67 = .ok (.iinc 1 1, 3) := by decide +kernel
theorem dX2_mergeFirstNeighbours_70 : decode cX2_mergeFirstNeighbours 70 = .ok (.goto (-68), 3) := by decide +kernel
theorem dX2_mergeFirstNeighbours_73 : decode cX2_mergeFirstNeighbours 73 = .ok (.iconst 0, 1) := by decide +kernel
theorem dX2_mergeFirstNeighbours_74 : decode cX2_mergeFirstNeighbours 74 = .ok (.ireturn, 1) := by decide +kernel
set_option maxRecDepth 20000 in
theorem ggX2_exchangeInOnePass_Jx4a65c_size_8abf5 : GoodIn wsX2_exchangeInOnePass wsJx4a65c_size_8abf5 := goodIn_r _ [8, 9, 75, 76, 77] (by decide +kernel) (by decide +kernel)
set_option maxRecDepth 20000 in
theorem gX2_exchangeInOnePass_Jx4a65c_size_8abf5 : GoodIn wsX2_exchangeInOnePass (wsV RX2 33 RJx4a65c yJx4a65c_size_8abf5 wsJx4a65c_size_8abf5) := goodIn_app (goodIn_of _ (by decide +kernel)) ggX2_exchangeInOnePass_Jx4a65c_size_8abf5
set_option maxRecDepth 20000 in
theorem ggX2_exchangeInOnePass_Jx4a65c_get_915e3 : GoodIn wsX2_exchangeInOnePass wsJx4a65c_get_915e3 := goodIn_r _ [13, 9, 14, 15, 16, 17, 18, 19, 20, 21, 22, 23, 24, 7, 25, 26, 75, 76, 77] (by decide +kernel) (by decide +kernel)
set_option maxRecDepth 20000 in
theorem gX2_exchangeInOnePass_Jx4a65c_get_915e3 : GoodIn wsX2_exchangeInOnePass (wsV RX2 112 RJx4a65c yJx4a65c_get_915e3 wsJx4a65c_get_915e3) := goodIn_app (goodIn_of _ (by decide +kernel)) ggX2_exchangeInOnePass_Jx4a65c_get_915e3
set_option maxRecDepth 20000 in
theorem ggX2_exchangeInOnePass_X1_isExchangeable : GoodIn wsX2_exchangeInOnePass wsX1_isExchangeable := goodIn_r _ [31, 32, 33, 34, 35, 30, 36, 37, 38, 39, 40, 41, 42, 43, 44, 45, 46, 47, 48, 49, 50, 51, 52, 53, 54, 55, 56, 57, 58, 59, 60, 70, 71, 72, 73, 74, 78, 79, 80] (by decide +kernel) (by decide +kernel)
set_option maxRecDepth 20000 in
theorem gX2_exchangeInOnePass_X1_isExchangeable : GoodIn wsX2_exchangeInOnePass (wsV RX2 212 RX1 yX1_isExchangeable wsX1_isExchangeable) := goodIn_app (goodIn_of _ (by decide +kernel)) ggX2_exchangeInOnePass_X1_isExchangeable
set_option maxRecDepth 20000 in
theorem ggX2_exchangeInOnePass_Jx4a65c_set_bcc79 : GoodIn wsX2_exchangeInOnePass wsJx4a65c_set_bcc79 := goodIn_r _ [64, 9, 26, 14, 15, 16, 17, 18, 19, 20, 21, 22, 23, 24, 7, 25, 75, 76, 77] (by decide +kernel) (by decide +kernel)
set_option maxRecDepth 20000 in
theorem gX2_exchangeInOnePass_Jx4a65c_set_bcc79 : GoodIn wsX2_exchangeInOnePass (wsV RX2 215 RJx4a65c yJx4a65c_set_bcc79 wsJx4a65c_set_bcc79) := goodIn_app (goodIn_of _ (by decide +kernel)) ggX2_exchangeInOnePass_Jx4a65c_set_bcc79
theorem dX2_exchangeInOnePass_0 : decode cX2_exchangeInOnePass 0 = .ok (.iconst 0, 1) := by decide +kernel
theorem dX2_exchangeInOnePass_1 : decode cX2_exchangeInOnePass 1 = .ok (.istore_n 1, 1) := by decide +kernel
theorem dX2_exchangeInOnePass_2 : decode cX2_exchangeInOnePass 2 = .ok (.iconst 0, 1) := by decide +kernel
theorem dX2_exchangeInOnePass_3 : decode cX2_exchangeInOnePass 3 = .ok (.istore_n 2, 1) := by decide +kernel
theorem dX2_exchangeInOnePass_4 : decode cX2_exchangeInOnePass 4 = .ok (.iload_n 2, 1) := by decide +kernel
theorem dX2_exchangeInOnePass_5 : decode cX2_exchangeInOnePass 5 = .ok (.aload_n 0, 1) := by decide +kernel
theorem dX2_exchangeInOnePass_6 : decode cX2_exchangeInOnePass 6 = .ok (.getfield 10, 3) := by decide +kernel
theorem dX2_exchangeInOnePass_9 : decode cX2_exchangeInOnePass 9 = .ok (.invokevirtual 33, 3) := by decide +kernel
theorem dX2_exchangeInOnePass_12 : decode cX2_exchangeInOnePass 12 = .ok (.iconst 1, 1) := by decide +kernel
theorem dX2_exchangeInOnePass_13 : decode cX2_exchangeInOnePass 13 = .ok (.isub, 1) := by decide +kernel
theorem dX2_exchangeInOnePass_14 : decode cX2_exchangeInOnePass 14 = .ok (.if_icmp .ge 83, 3) := by decide +kernel
theorem dX2_exchangeInOnePass_17 : decode cX2_exchangeInOnePass 17 = .ok (.aload_n 0, 1) := by decide +kernel
theorem dX2_exchangeInOnePass_18 : decode cX2_exchangeInOnePass 18 = .ok (.getfield 10, 3) := by decide +kernel
theorem dX2_exchangeInOnePass_21 : decode cX2_exchangeInOnePass 21 = .ok (.iload_n 2, 1) := by decide +kernel
theorem dX2_exchangeInOnePass_22 : decode cX2_exchangeInOnePass 22 = .ok (.invokevirtual 112, 3) := by decide +kernel
theorem dX2_exchangeInOnePass_25 : decode cX2_exchangeInOnePass 25 = .ok (.checkcast 47, 3) := by decide +kernel
theorem dX2_exchangeInOnePass_28 : decode cX2_exchangeInOnePass 28 = .ok (.astore_n 3, 1) := by decide +kernel
theorem dX2_exchangeInOnePass_29 : decode cX2_exchangeInOnePass 29 = .ok (.aload_n 0, 1) := by decide +kernel
theorem dX2_exchangeInOnePass_30 : decode cX2_exchangeInOnePass 30 = .ok (.getfield 10, 3) := by decide +kernel
theorem dX2_exchangeInOnePass_33 : decode cX2_exchangeInOnePass 33 = .ok (.iload_n 2, 1) := by decide +kernel
theorem dX2_exchangeInOnePass_34 : decode cX2_exchangeInOnePass 34 = .ok (.iconst 1, 1) := by decide +kernel
theorem dX2_exchangeInOnePass_35 : decode cX2_exchangeInOnePass 35 = .ok (.iadd, 1) := by decide +kernel
theorem dX2_exchangeInOnePass_36 : decode cX2_exchangeInOnePass 36 = .ok (.invokevirtual 112, 3) := by decide +kernel
theorem dX2_exchangeInOnePass_39 : decode cX2_exchangeInOnePass 39 = .ok (.checkcast 47, 3) := by decide +kernel
theorem dX2_exchangeInOnePass_42 : decode cX2_exchangeInOnePass 42 = .ok (.astore 4, 2) := by decide +kernel
theorem dX2_exchangeInOnePass_44 : decode cX2_exchangeInOnePass 44 = .ok (.aload 4, 2) := by decide +kernel
theorem dX2_exchangeInOnePass_46 : decode cX2_exchangeInOnePass 46 = .ok (.getfield 115, 3) := by decide +kernel
theorem dX2_exchangeInOnePass_49 : decode cX2_exchangeInOnePass 49 = .ok (.aload_n 3, 1) := by decide +kernel
theorem dX2_exchangeInOnePass_50 : decode cX2_exchangeInOnePass 50 = .ok (.getfield 115, 3) := by decide +kernel
theorem dX2_exchangeInOnePass_53 : decode cX2_exchangeInOnePass 53 = .ok (.if_icmp .le 38, 3) := by decide +kernel
theorem dX2_exchangeInOnePass_56 : decode cX2_exchangeInOnePass 56 = .ok (.aload_n 3, 1) := by decide +kernel
theorem dX2_exchangeInOnePass_57 : decode cX2_exchangeInOnePass 57 = .ok (.aload 4, 2) := by decide +kernel
theorem dX2_exchangeInOnePass_59 : decode cX2_exchangeInOnePass 59 = .ok (.invokevirtual 212, 3) := by decide +kernel
theorem dX2_exchangeInOnePass_62 : decode cX2_exchangeInOnePass 62 = .ok (.ifCond .eq 29, 3) := by decide +kernel
theorem dX2_exchangeInOnePass_65 : decode cX2_exchangeInOnePass 65 = .ok (.aload_n 0, 1) := by decide +kernel
theorem dX2_exchangeInOnePass_66 : decode cX2_exchangeInOnePass 66 = .ok (.getfield 10, 3) := by decide +kernel
theorem dX2_exchangeInOnePass_69 : decode cX2_exchangeInOnePass 69 = .ok (.iload_n 2, 1) := by decide +kernel
theorem dX2_exchangeInOnePass_70 : decode cX2_exchangeInOnePass 70 = .ok (.aload 4, 2) := by decide +kernel
theorem dX2_exchangeInOnePass_72 : decode cX2_exchangeInOnePass 72 = .ok (.invokevirtual 215, 3) := by decide +kernel
theorem dX2_exchangeInOnePass_75 : decode cX2_exchangeInOnePass 75 = .ok (.pop, 1) := by decide +kernel
theorem dX2_exchangeInOnePass_76 : decode cX2_exchangeInOnePass 76 = .ok (.aload_n 0, 1) := by decide +kernel
theorem dX2_exchangeInOnePass_77 : decode cX2_exchangeInOnePass 77 = .ok (.getfield 10, 3) := by decide +kernel
theorem dX2_exchangeInOnePass_80 : decode cX2_exchangeInOnePass 80 = .ok (.iload_n 2, 1) := by decide +kernel
theorem dX2_exchangeInOnePass_81 : decode cX2_exchangeInOnePass 81 = .ok (.iconst 1, 1) := by decide +kernel
theorem dX2_exchangeInOnePass_82 : decode cX2_exchangeInOnePass 82 = .ok (.iadd, 1) := by decide +kernel
theorem dX2_exchangeInOnePass_83 : decode cX2_exchangeInOnePass 83 = .ok (.aload_n 3, 1) := by decide +kernel
theorem dX2_exchangeInOnePass_84 : decode cX2_exchangeInOnePass 84 = .ok (.invokevirtual 215, 3) := by decide +kernel
theorem dX2_exchangeInOnePass_87 : decode cX2_exchangeInOnePass 87 = .ok (.pop, 1) := by decide +kernel
theorem dX2_exchangeInOnePass_88 : decode cX2_exchangeInOnePass 88 = .ok (.iinc 1 1, 3) := by decide +kernel
theorem dX2_exchangeInOnePass_91 : decode cX2_exchangeInOnePass 91 = .ok (.iinc 2 1, 3) := by decide +kernel
theorem dX2_exchangeInOnePass_94 : decode cX2_exchangeInOnePass 94 = .ok (.goto (-90), 3) := by decide +kernel
theorem dX2_exchangeInOnePass_97 : decode cX2_exchangeInOnePass 97 = .ok (.iload_n 1, 1) := by decide +kernel
theorem dX2_exchangeInOnePass_98 : decode cX2_exchangeInOnePass 98 = .ok (.ireturn, 1) := by decide +kernel
set_option maxRecDepth 20000 in
theorem ggX2_entryCount_X2_blockBegins : GoodIn wsX2_entryCount wsX2_blockBegins := goodIn_r _ [8, 9, 10, 7, 11, 12, 13, 14] (by decide +kernel) (by decide +kernel)
set_option maxRecDepth 20000 in
theorem gX2_entryCount_X2_blockBegins : GoodIn wsX2_entryCount (va_wsS RX2 218 yX2_blockBegins wsX2_blockBegins) := goodIn_app (goodIn_of _ (by decide +kernel)) ggX2_entryCount_X2_blockBegins
set_option maxRecDepth 20000 in
theorem ggX2_entryCount_J6_bitCount_0f7a4 : GoodIn wsX2_entryCount wsJ6_bitCount_0f7a4 := goodIn_r _ [18, 19, 20, 21] (by decide +kernel) (by decide +kernel)
set_option maxRecDepth 20000 in
theorem gX2_entryCount_J6_bitCount_0f7a4 : GoodIn wsX2_entryCount (va_wsS RX2 144 yJ6_bitCount_0f7a4 wsJ6_bitCount_0f7a4) := goodIn_app (goodIn_of _ (by decide +kernel)) ggX2_entryCount_J6_bitCount_0f7a4
theorem dX2_entryCount_0 : decode cX2_entryCount 0 = .ok (.aload_n 0, 1) := by decide +kernel
theorem dX2_entryCount_1 : decode cX2_entryCount 1 = .ok (.getfield 77, 3) := by decide +kernel
