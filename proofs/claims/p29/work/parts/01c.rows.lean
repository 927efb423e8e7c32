set_option maxRecDepth 20000 in
theorem ggX0_init_X2_setOf : GoodIn wsX0_init wsX2_setOf := goodIn_r _ [9] (by decide +kernel) (by decide +kernel)
set_option maxRecDepth 20000 in
theorem gX0_init_X2_setOf_n16 : GoodIn wsX0_init (wsX2_setOf) := ggX0_init_X2_setOf
theorem dX0_init_0 : decode cX0_init 0 = .ok (.aload_n 0, 1) := by decide +kernel
theorem dX0_init_1 : decode cX0_init 1 = .ok (.invokespecial 1, 3) := by decide +kernel
theorem dX0_init_4 : decode cX0_init 4 = .ok (.aload_n 0, 1) := by decide +kernel
theorem dX0_init_5 : decode cX0_init 5 = .ok (.iload_n 1, 1) := by decide +kernel
theorem dX0_init_6 : decode cX0_init 6 = .ok (.putfield 7, 3) := by decide +kernel
theorem dX0_init_9 : decode cX0_init 9 = .ok (.aload_n 0, 1) := by decide +kernel
theorem dX0_init_10 : decode cX0_init 10 = .ok (.iload_n 2, 1) := by decide +kernel
theorem dX0_init_11 : decode cX0_init 11 = .ok (.putfield 13, 3) := by decide +kernel
theorem dX0_init_14 : decode cX0_init 14 = .ok (.aload_n 0, 1) := by decide +kernel
theorem dX0_init_15 : decode cX0_init 15 = .ok (.iload_n 1, 1) := by decide +kernel
theorem dX0_init_16 : decode cX0_init 16 = .ok (.iload_n 2, 1) := by decide +kernel
theorem dX0_init_17 : decode cX0_init 17 = .ok (.invokestatic 16, 3) := by decide +kernel
theorem dX0_init_20 : decode cX0_init 20 = .ok (.putfield 22, 3) := by decide +kernel
theorem dX0_init_23 : decode cX0_init 23 = .ok (.return_, 1) := by decide +kernel
theorem dX0_asNumber_0 : decode cX0_asNumber 0 = .ok (.bipush 100, 2) := by decide +kernel
theorem dX0_asNumber_2 : decode cX0_asNumber 2 = .ok (.aload_n 0, 1) := by decide +kernel
theorem dX0_asNumber_3 : decode cX0_asNumber 3 = .ok (.getfield 7, 3) := by decide +kernel
theorem dX0_asNumber_6 : decode cX0_asNumber 6 = .ok (.imul, 1) := by decide +kernel
theorem dX0_asNumber_7 : decode cX0_asNumber 7 = .ok (.aload_n 0, 1) := by decide +kernel
theorem dX0_asNumber_8 : decode cX0_asNumber 8 = .ok (.getfield 13, 3) := by decide +kernel
theorem dX0_asNumber_11 : decode cX0_asNumber 11 = .ok (.iadd, 1) := by decide +kernel
theorem dX0_asNumber_12 : decode cX0_asNumber 12 = .ok (.ireturn, 1) := by decide +kernel
theorem dX0_includes_0 : decode cX0_includes 0 = .ok (.iload_n 1, 1) := by decide +kernel
theorem dX0_includes_1 : decode cX0_includes 1 = .ok (.aload_n 0, 1) := by decide +kernel
theorem dX0_includes_2 : decode cX0_includes 2 = .ok (.getfield 7, 3) := by decide +kernel
theorem dX0_includes_5 : decode cX0_includes 5 = .ok (.if_icmp .lt 15, 3) := by decide +kernel
theorem dX0_includes_8 : decode cX0_includes 8 = .ok (.iload_n 1, 1) := by decide +kernel
theorem dX0_includes_9 : decode cX0_includes 9 = .ok (.aload_n 0, 1) := by decide +kernel
theorem dX0_includes_10 : decode cX0_includes 10 = .ok (.getfield 13, 3) := by decide +kernel
theorem dX0_includes_13 : decode cX0_includes 13 = .ok (.if_icmp .gt 7, 3) := by decide +kernel
theorem dX0_includes_16 : decode cX0_includes 16 = .ok (.iconst 1, 1) := by decide +kernel
theorem dX0_includes_17 : decode cX0_includes 17 = .ok (.goto 4, 3) := by decide +kernel
theorem dX0_includes_20 : decode cX0_includes 20 = .ok (.iconst 0, 1) := by decide +kernel
theorem dX0_includes_21 : decode cX0_includes 21 = .ok (.ireturn, 1) := by decide +kernel
theorem dX0_includesAll_0 : decode cX0_includesAll 0 = .ok (.aload_n 1, 1) := by decide +kernel
theorem dX0_includesAll_1 : decode cX0_includesAll 1 = .ok (.getfield 7, 3) := by decide +kernel
theorem dX0_includesAll_4 : decode cX0_includesAll 4 = .ok (.aload_n 0, 1) := by decide +kernel
theorem dX0_includesAll_5 : decode cX0_includesAll 5 = .ok (.getfield 7, 3) := by decide +kernel
theorem dX0_includesAll_8 : decode cX0_includesAll 8 = .ok (.if_icmp .lt 18, 3) := by decide +kernel
theorem dX0_includesAll_11 : decode cX0_includesAll 11 = .ok (.aload_n 1, 1) := by decide +kernel
theorem dX0_includesAll_12 : decode cX0_includesAll 12 = .ok (.getfield 13, 3) := by decide +kernel
theorem dX0_includesAll_15 : decode cX0_includesAll 15 = .ok (.aload_n 0, 1) := by decide +kernel
theorem dX0_includesAll_16 : decode cX0_includesAll 16 = .ok (.getfield 13, 3) := by decide +kernel
theorem dX0_includesAll_19 : decode cX0_includesAll 19 = .ok (.if_icmp .gt 7, 3) := by decide +kernel
theorem dX0_includesAll_22 : decode cX0_includesAll 22 = .ok (.iconst 1, 1) := by decide +kernel
theorem dX0_includesAll_23 : decode cX0_includesAll 23 = .ok (.goto 4, 3) := by decide +kernel
theorem dX0_includesAll_26 : decode cX0_includesAll 26 = .ok (.iconst 0, 1) := by decide +kernel
theorem dX0_includesAll_27 : decode cX0_includesAll 27 = .ok (.ireturn, 1) := by decide +kernel
theorem dX0_isSame_0 : decode cX0_isSame 0 = .ok (.aload_n 1, 1) := by decide +kernel
theorem dX0_isSame_1 : decode cX0_isSame 1 = .ok (.getfield 7, 3) := by decide +kernel
theorem dX0_isSame_4 : decode cX0_isSame 4 = .ok (.aload_n 0, 1) := by decide +kernel
theorem dX0_isSame_5 : decode cX0_isSame 5 = .ok (.getfield 7, 3) := by decide +kernel
theorem dX0_isSame_8 : decode cX0_isSame 8 = .ok (.if_icmp .ne 18, 3) := by decide +kernel
theorem dX0_isSame_11 : decode cX0_isSame 11 = .ok (.aload_n 1, 1) := by decide +kernel
theorem dX0_isSame_12 : decode cX0_isSame 12 = .ok (.getfield 13, 3) := by decide +kernel
theorem dX0_isSame_15 : decode cX0_isSame 15 = .ok (.aload_n 0, 1) := by decide +kernel
theorem dX0_isSame_16 : decode cX0_isSame 16 = .ok (.getfield 13, 3) := by decide +kernel
theorem dX0_isSame_19 : decode cX0_isSame 19 = .ok (.if_icmp .ne 7, 3) := by decide +kernel
theorem dX0_isSame_22 : decode cX0_isSame 22 = .ok (.iconst 1, 1) := by decide +kernel
theorem dX0_isSame_23 : decode cX0_isSame 23 = .ok (.goto 4, 3) := by decide +kernel
theorem dX0_isSame_26 : decode cX0_isSame 26 = .ok (.iconst 0, 1) := by decide +kernel
theorem dX0_isSame_27 : decode cX0_isSame 27 = .ok (.ireturn, 1) := by decide +kernel
theorem dX0_commonNumbers_0 : decode cX0_commonNumbers 0 = .ok (.iconst 0, 1) := by decide +kernel
theorem dX0_commonNumbers_1 : decode cX0_commonNumbers 1 = .ok (.aload_n 0, 1) := by decide +kernel
theorem dX0_commonNumbers_2 : decode cX0_commonNumbers 2 = .ok (.getfield 13, 3) := by decide +kernel
theorem dX0_commonNumbers_5 : decode cX0_commonNumbers 5 = .ok (.aload_n 1, 1) := by decide +kernel
theorem dX0_commonNumbers_6 : decode cX0_commonNumbers 6 = .ok (.getfield 13, 3) := by decide +kernel
theorem dX0_commonNumbers_9 : decode cX0_commonNumbers 9 = .ok (.invokestatic 25, 3) := by decide +kernel
theorem dX0_commonNumbers_12 : decode cX0_commonNumbers 12 = .ok (.aload_n 0, 1) := by decide +kernel
theorem dX0_commonNumbers_13 : decode cX0_commonNumbers 13 = .ok (.getfield 7, 3) := by decide +kernel
theorem dX0_commonNumbers_16 : decode cX0_commonNumbers 16 = .ok (.aload_n 1, 1) := by decide +kernel
theorem dX0_commonNumbers_17 : decode cX0_commonNumbers 17 = .ok (.getfield 7, 3) := by decide +kernel
theorem dX0_commonNumbers_20 : decode cX0_commonNumbers 20 = .ok (.invokestatic 30, 3) := by decide +kernel
theorem dX0_commonNumbers_23 : decode cX0_commonNumbers 23 = .ok (.isub, 1) := by decide +kernel
theorem dX0_commonNumbers_24 : decode cX0_commonNumbers 24 = .ok (.iconst 1, 1) := by decide +kernel
theorem dX0_commonNumbers_25 : decode cX0_commonNumbers 25 = .ok (.iadd, 1) := by decide +kernel
theorem dX0_commonNumbers_26 : decode cX0_commonNumbers 26 = .ok (.invokestatic 30, 3) := by decide +kernel
theorem dX0_commonNumbers_29 : decode cX0_commonNumbers 29 = .ok (.ireturn, 1) := by decide +kernel
theorem dX0_isJoinable_0 : decode cX0_isJoinable 0 = .ok (.aload_n 0, 1) := by decide +kernel
theorem dX0_isJoinable_1 : decode cX0_isJoinable 1 = .ok (.getfield 7, 3) := by decide +kernel
theorem dX0_isJoinable_4 : decode cX0_isJoinable 4 = .ok (.aload_n 1, 1) := by decide +kernel
theorem dX0_isJoinable_5 : decode cX0_isJoinable 5 = .ok (.getfield 13, 3) := by decide +kernel
theorem dX0_isJoinable_8 : decode cX0_isJoinable 8 = .ok (.iconst 1, 1) := by decide +kernel
theorem dX0_isJoinable_9 : decode cX0_isJoinable 9 = .ok (.iadd, 1) := by decide +kernel
theorem dX0_isJoinable_10 : decode cX0_isJoinable 10 = .ok (.if_icmp .gt 20, 3) := by decide +kernel
theorem dX0_isJoinable_13 : decode cX0_isJoinable 13 = .ok (.aload_n 1, 1) := by decide +kernel
theorem dX0_isJoinable_14 : decode cX0_isJoinable 14 = .ok (.getfield 7, 3) := by decide +kernel
theorem dX0_isJoinable_17 : decode cX0_isJoinable 17 = .ok (.aload_n 0, 1) := by decide +kernel
theorem dX0_isJoinable_18 : decode cX0_isJoinable 18 = .ok (.getfield 13, 3) := by decide +kernel
theorem dX0_isJoinable_21 : decode cX0_isJoinable 21 = .ok (.iconst 1, 1) := by decide +kernel
theorem dX0_isJoinable_22 : decode cX0_isJoinable 22 = .ok (.iadd, 1) := by decide +kernel
theorem dX0_isJoinable_23 : decode cX0_isJoinable 23 = .ok (.if_icmp .gt 7, 3) := by decide +kernel
theorem dX0_isJoinable_26 : decode cX0_isJoinable 26 = .ok (.iconst 1, 1) := by decide +kernel
theorem dX0_isJoinable_27 : decode cX0_isJoinable 27 = .ok (.goto 4, 3) := by decide +kernel
theorem dX0_isJoinable_30 : decode cX0_isJoinable 30 = .ok (.iconst 0, 1) := by decide +kernel
theorem dX0_isJoinable_31 : decode cX0_isJoinable 31 = .ok (.ireturn, 1) := by decide +kernel
set_option maxRecDepth 20000 in
theorem ggX0_joined_X0_init : GoodIn wsX0_joined wsX0_init := goodIn_r _ [15, 16, 17, 18, 4, 9, 19, 20, 21, 22, 23, 24, 25] (by decide +kernel) (by decide +kernel)
set_option maxRecDepth 20000 in
theorem gX0_joined_X0_init : GoodIn wsX0_joined (wsX0_init) := ggX0_joined_X0_init
theorem dX0_joined_0 : decode cX0_joined 0 = .ok (.new 8, 3) := by decide +kernel
theorem dX0_joined_3 : decode cX0_joined 3 = .ok (.dup, 1) := by decide +kernel
theorem dX0_joined_4 : decode cX0_joined 4 = .ok (.aload_n 0, 1) := by decide +kernel
theorem dX0_joined_5 : decode cX0_joined 5 = .ok (.getfield 7, 3) := by decide +kernel
theorem dX0_joined_8 : decode cX0_joined 8 = .ok (.aload_n 1, 1) := by decide +kernel
theorem dX0_joined_9 : decode cX0_joined 9 = .ok (.getfield 7, 3) := by decide +kernel
theorem dX0_joined_12 : decode cX0_joined 12 = .ok (.invokestatic 25, 3) := by decide +kernel
theorem dX0_joined_15 : decode cX0_joined 15 = .ok (.aload_n 0, 1) := by decide +kernel
theorem dX0_joined_16 : decode cX0_joined 16 = .ok (.getfield 13, 3) := by decide +kernel
theorem dX0_joined_19 : decode cX0_joined 19 = .ok (.aload_n 1, 1) := by decide +kernel
theorem dX0_joined_20 : decode cX0_joined 20 = .ok (.getfield 13, 3) := by decide +kernel
theorem dX0_joined_23 : decode cX0_joined 23 = .ok (.invokestatic 30, 3) := by decide +kernel
theorem dX0_joined_26 : decode cX0_joined 26 = .ok (.invokespecial 33, 3) := by decide +kernel
theorem dX0_joined_29 : decode cX0_joined 29 = .ok (.areturn, 1) := by decide +kernel
theorem dX1_init_0 : decode cX1_init 0 = .ok (.aload_n 0, 1) := by decide +kernel
theorem dX1_init_1 : decode cX1_init 1 = .ok (.invokespecial 1, 3) := by decide +kernel
theorem dX1_init_4 : decode cX1_init 4 = .ok (.aload_n 0, 1) := by decide +kernel
theorem dX1_init_5 : decode cX1_init 5 = .ok (.aload_n 1, 1) := by decide +kernel
theorem dX1_init_6 : decode cX1_init 6 = .ok (.putfield 7, 3) := by decide +kernel
theorem dX1_init_9 : decode cX1_init 9 = .ok (.aload_n 0, 1) := by decide +kernel
theorem dX1_init_10 : decode cX1_init 10 = .ok (.aload_n 2, 1) := by decide +kernel
theorem dX1_init_11 : decode cX1_init 11 = .ok (.putfield 13, 3) := by decide +kernel
theorem dX1_init_14 : decode cX1_init 14 = .ok (.aload_n 0, 1) := by decide +kernel
theorem dX1_init_15 : decode cX1_init 15 = .ok (.iload_n 3, 1) := by decide +kernel
theorem dX1_init_16 : decode cX1_init 16 = .ok (.putfield 16, 3) := by decide +kernel
theorem dX1_init_19 : decode cX1_init 19 = .ok (.aload_n 0, 1) := by decide +kernel
theorem dX1_init_20 : decode cX1_init 20 = .ok (.iload 4, 2) := by decide +kernel
theorem dX1_init_22 : decode cX1_init 22 = .ok (.putfield 20, 3) := by decide +kernel
theorem dX1_init_25 : decode cX1_init 25 = .ok (.return_, 1) := by decide +kernel
set_option maxRecDepth 20000 in
theorem ggX1_concerns_X0_includes : GoodIn wsX1_concerns wsX0_includes := goodIn_r _ [7, 8, 9, 18, 19, 20] (by decide +kernel) (by decide +kernel)
set_option maxRecDepth 20000 in
theorem gX1_concerns_X0_includes : GoodIn wsX1_concerns (wsV RX1 24 RX0 yX0_includes wsX0_includes) := goodIn_app (goodIn_of _ (by decide +kernel)) ggX1_concerns_X0_includes
set_option maxRecDepth 20000 in
theorem ggX1_concerns_X2_holds : GoodIn wsX1_concerns wsX2_holds := goodIn_r _ [12] (by decide +kernel) (by decide +kernel)
set_option maxRecDepth 20000 in
theorem gX1_concerns_X2_holds_n30 : GoodIn wsX1_concerns (wsX2_holds) := ggX1_concerns_X2_holds
theorem dX1_concerns_0 : decode cX1_concerns 0 = .ok (.aload_n 0, 1) := by decide +kernel
theorem dX1_concerns_1 : decode cX1_concerns 1 = .ok (.getfield 7, 3) := by decide +kernel
theorem dX1_concerns_4 : decode cX1_concerns 4 = .ok (.iload_n 1, 1) := by decide +kernel
theorem dX1_concerns_5 : decode cX1_concerns 5 = .ok (.invokevirtual 24, 3) := by decide +kernel
theorem dX1_concerns_8 : decode cX1_concerns 8 = .ok (.ifCond .eq 18, 3) := by decide +kernel
theorem dX1_concerns_11 : decode cX1_concerns 11 = .ok (.aload_n 0, 1) := by decide +kernel
theorem dX1_concerns_12 : decode cX1_concerns 12 = .ok (.getfield 16, 3) := by decide +kernel
theorem dX1_concerns_15 : decode cX1_concerns 15 = .ok (.iload_n 2, 1) := by decide +kernel
theorem dX1_concerns_16 : decode cX1_concerns 16 = .ok (.invokestatic 30, 3) := by decide +kernel
theorem dX1_concerns_19 : decode cX1_concerns 19 = .ok (.ifCond .eq 7, 3) := by decide +kernel
theorem dX1_concerns_22 : decode cX1_concerns 22 = .ok (.iconst 1, 1) := by decide +kernel
theorem dX1_concerns_23 : decode cX1_concerns 23 = .ok (.goto 4, 3) := by decide +kernel
theorem dX1_concerns_26 : decode cX1_concerns 26 = .ok (.iconst 0, 1) := by decide +kernel
theorem dX1_concerns_27 : decode cX1_concerns 27 = .ok (.ireturn, 1) := by decide +kernel
set_option maxRecDepth 20000 in
theorem ggX1_matches_X1_concerns : GoodIn wsX1_matches wsX1_concerns := goodIn_r _ [6, 7, 8, 9, 10, 11, 12, 13, 14, 15, 16, 17, 18, 19, 20, 21, 22, 23, 24, 25, 26] (by decide +kernel) (by decide +kernel)
set_option maxRecDepth 20000 in
theorem gX1_matches_X1_concerns : GoodIn wsX1_matches (wsV RX1 36 RX1 yX1_concerns wsX1_concerns) := goodIn_app (goodIn_of _ (by decide +kernel)) ggX1_matches_X1_concerns
set_option maxRecDepth 20000 in
theorem ggX1_matches_X0_includes : GoodIn wsX1_matches wsX0_includes := goodIn_r _ [13, 14, 15, 24, 25, 26] (by decide +kernel) (by decide +kernel)
set_option maxRecDepth 20000 in
theorem gX1_matches_X0_includes : GoodIn wsX1_matches (wsV RX1 24 RX0 yX0_includes wsX0_includes) := goodIn_app (goodIn_of _ (by decide +kernel)) ggX1_matches_X0_includes
theorem dX1_matches_0 : decode cX1_matches 0 = .ok (.aload_n 0, 1) := by decide +kernel
theorem dX1_matches_1 : decode cX1_matches 1 = .ok (.iload_n 1, 1) := by decide +kernel
theorem dX1_matches_2 : decode cX1_matches 2 = .ok (.iload_n 3, 1) := by decide +kernel
theorem dX1_matches_3 : decode cX1_matches 3 = .ok (.invokevirtual 36, 3) := by decide +kernel
theorem dX1_matches_6 : decode cX1_matches 6 = .ok (.ifCond .eq 18, 3) := by decide +kernel
theorem dX1_matches_9 : decode cX1_matches 9 = .ok (.aload_n 0, 1) := by decide +kernel
theorem dX1_matches_10 : decode cX1_matches 10 = .ok (.getfield 13, 3) := by decide +kernel
theorem dX1_matches_13 : decode cX1_matches 13 = .ok (.iload_n 2, 1) := by decide +kernel
theorem dX1_matches_14 : decode cX1_matches 14 = .ok (.invokevirtual 24, 3) := by decide +kernel
theorem dX1_matches_17 : decode cX1_matches 17 = .ok (.ifCond .eq 7, 3) := by decide +kernel
theorem dX1_matches_20 : decode cX1_matches 20 = .ok (.iconst 1, 1) := by decide +kernel
theorem dX1_matches_21 : decode cX1_matches 21 = .ok (.goto 4, 3) := by decide +kernel
theorem dX1_matches_24 : decode cX1_matches 24 = .ok (.iconst 0, 1) := by decide +kernel
theorem dX1_matches_25 : decode cX1_matches 25 = .ok (.ireturn, 1) := by decide +kernel
set_option maxRecDepth 20000 in
theorem ggX1_covers_X0_includesAll : GoodIn wsX1_covers wsX0_includesAll := goodIn_r _ [8, 9, 10, 16, 17, 18] (by decide +kernel) (by decide +kernel)
set_option maxRecDepth 20000 in
theorem gX1_covers_X0_includesAll : GoodIn wsX1_covers (wsV RX1 39 RX0 yX0_includesAll wsX0_includesAll) := goodIn_app (goodIn_of _ (by decide +kernel)) ggX1_covers_X0_includesAll
theorem dX1_covers_0 : decode cX1_covers 0 = .ok (.aload_n 0, 1) := by decide +kernel
theorem dX1_covers_1 : decode cX1_covers 1 = .ok (.getfield 7, 3) := by decide +kernel
theorem dX1_covers_4 : decode cX1_covers 4 = .ok (.aload_n 1, 1) := by decide +kernel
theorem dX1_covers_5 : decode cX1_covers 5 = .ok (.getfield 7, 3) := by decide +kernel
theorem dX1_covers_8 : decode cX1_covers 8 = .ok (.invokevirtual 39, 3) := by decide +kernel
theorem dX1_covers_11 : decode cX1_covers 11 = .ok (.ifCond .eq 37, 3) := by decide +kernel
theorem dX1_covers_14 : decode cX1_covers 14 = .ok (.aload_n 0, 1) := by decide +kernel
theorem dX1_covers_15 : decode cX1_covers 15 = .ok (.getfield 13, 3) := by decide +kernel
theorem dX1_covers_18 : decode cX1_covers 18 = .ok (.aload_n 1, 1) := by decide +kernel
theorem dX1_covers_19 : decode cX1_covers 19 = .ok (.getfield 13, 3) := by decide +kernel
theorem dX1_covers_22 : decode cX1_covers 22 = .ok (.invokevirtual 39, 3) := by decide +kernel
theorem dX1_covers_25 : decode cX1_covers 25 = .ok (.ifCond .eq 23, 3) := by decide +kernel
theorem dX1_covers_28 : decode cX1_covers 28 = .ok (.aload_n 0, 1) := by decide +kernel
theorem dX1_covers_29 : decode cX1_covers 29 = .ok (.getfield 16, 3) := by decide +kernel
theorem dX1_covers_32 : decode cX1_covers 32 = .ok (.aload_n 1, 1) := by decide +kernel
theorem dX1_covers_33 : decode cX1_covers 33 = .ok (.getfield 16, 3) := by decide +kernel
theorem dX1_covers_36 : decode cX1_covers 36 = .ok (.iand, 1) := by decide +kernel
theorem dX1_covers_37 : decode cX1_covers 37 = .ok (.aload_n 1, 1) := by decide +kernel
theorem dX1_covers_38 : decode cX1_covers 38 = .ok (.getfield 16, 3) := by decide +kernel
theorem dX1_covers_41 : decode cX1_covers 41 = .ok (.if_icmp .ne 7, 3) := by decide +kernel
theorem dX1_covers_44 : decode cX1_covers 44 = .ok (.iconst 1, 1) := by decide +kernel
theorem dX1_covers_45 : decode cX1_covers 45 = .ok (.goto 4, 3) := by decide +kernel
theorem dX1_covers_48 : decode cX1_covers 48 = .ok (.iconst 0, 1) := by decide +kernel
theorem dX1_covers_49 : decode cX1_covers 49 = .ok (.ireturn, 1) := by decide +kernel
set_option maxRecDepth 20000 in
theorem ggX1_commonPackets_X0_commonNumbers : GoodIn wsX1_commonPackets wsX0_commonNumbers := goodIn_r _ [8, 9, 10, 11, 12, 13, 14, 15, 16, 17, 30, 31, 32] (by decide +kernel) (by decide +kernel)
set_option maxRecDepth 20000 in
theorem gX1_commonPackets_X0_commonNumbers : GoodIn wsX1_commonPackets (wsV RX1 43 RX0 yX0_commonNumbers wsX0_commonNumbers) := goodIn_app (goodIn_of _ (by decide +kernel)) ggX1_commonPackets_X0_commonNumbers
set_option maxRecDepth 20000 in
theorem ggX1_commonPackets_J6_bitCount_0f7a4 : GoodIn wsX1_commonPackets wsJ6_bitCount_0f7a4 := goodIn_r _ [21, 22, 23, 24] (by decide +kernel) (by decide +kernel)
set_option maxRecDepth 20000 in
theorem gX1_commonPackets_J6_bitCount_0f7a4 : GoodIn wsX1_commonPackets (va_wsS RX1 47 yJ6_bitCount_0f7a4 wsJ6_bitCount_0f7a4) := goodIn_app (goodIn_of _ (by decide +kernel)) ggX1_commonPackets_J6_bitCount_0f7a4
theorem dX1_commonPackets_0 : decode cX1_commonPackets 0 = .ok (.aload_n 0, 1) := by decide +kernel
theorem dX1_commonPackets_1 : decode cX1_commonPackets 1 = .ok (.getfield 7, 3) := by decide +kernel
theorem dX1_commonPackets_4 : decode cX1_commonPackets 4 = .ok (.aload_n 1, 1) := by decide +kernel
theorem dX1_commonPackets_5 : decode cX1_commonPackets 5 = .ok (.getfield 7, 3) := by decide +kernel
theorem dX1_commonPackets_8 : decode cX1_commonPackets 8 = .ok (.invokevirtual 43, 3) := by decide +kernel
theorem dX1_commonPackets_11 : decode cX1_commonPackets 11 = .ok (.aload_n 0, 1) := by decide +kernel
theorem dX1_commonPackets_12 : decode cX1_commonPackets 12 = .ok (.getfield 13, 3) := by decide +kernel
theorem dX1_commonPackets_15 : decode cX1_commonPackets 15 = .ok (.aload_n 1, 1) := by decide +kernel
theorem dX1_commonPackets_16 : decode cX1_commonPackets 16 = .ok (.getfield 13, 3) := by decide +kernel
theorem dX1_commonPackets_19 : decode cX1_commonPackets 19 = .ok (.invokevirtual 43, 3) := by decide +kernel
theorem dX1_commonPackets_22 : decode cX1_commonPackets 22 = .ok (.imul, 1) := by decide +kernel
theorem dX1_commonPackets_23 : decode cX1_commonPackets 23 = .ok (.aload_n 0, 1) := by decide +kernel
theorem dX1_commonPackets_24 : decode cX1_commonPackets 24 = .ok (.getfield 16, 3) := by decide +kernel
theorem dX1_commonPackets_27 : decode cX1_commonPackets 27 = .ok (.aload_n 1, 1) := by decide +kernel
theorem dX1_commonPackets_28 : decode cX1_commonPackets 28 = .ok (.getfield 16, 3) := by decide +kernel
theorem dX1_commonPackets_31 : decode cX1_commonPackets 31 = .ok (.iand, 1) := by decide +kernel
theorem dX1_commonPackets_32 : decode cX1_commonPackets 32 = .ok (.invokestatic 47, 3) := by decide +kernel
theorem dX1_commonPackets_35 : decode cX1_commonPackets 35 = .ok (.imul, 1) := by decide +kernel
theorem dX1_commonPackets_36 : decode cX1_commonPackets 36 = .ok (.ireturn, 1) := by decide +kernel
set_option maxRecDepth 20000 in
theorem ggX1_isExchangeable_X1_commonPackets : GoodIn wsX1_isExchangeable wsX1_commonPackets := goodIn_r _ [6, 7, 8, 9, 10, 11, 12, 13, 14, 15, 16, 17, 18, 19, 20, 21, 22, 23, 24, 25, 26, 27, 28, 29, 30, 31, 32, 33, 34, 35, 36, 37, 38] (by decide +kernel) (by decide +kernel)
set_option maxRecDepth 20000 in
theorem gX1_isExchangeable_X1_commonPackets : GoodIn wsX1_isExchangeable (wsV RX1 53 RX1 yX1_commonPackets wsX1_commonPackets) := goodIn_app (goodIn_of _ (by decide +kernel)) ggX1_isExchangeable_X1_commonPackets
theorem dX1_isExchangeable_0 : decode cX1_isExchangeable 0 = .ok (.aload_n 0, 1) := by decide +kernel
theorem dX1_isExchangeable_1 : decode cX1_isExchangeable 1 = .ok (.getfield 20, 3) := by decide +kernel
theorem dX1_isExchangeable_4 : decode cX1_isExchangeable 4 = .ok (.aload_n 1, 1) := by decide +kernel
theorem dX1_isExchangeable_5 : decode cX1_isExchangeable 5 = .ok (.getfield 20, 3) := by decide +kernel
theorem dX1_isExchangeable_8 : decode cX1_isExchangeable 8 = .ok (.if_icmp .eq 11, 3) := by decide +kernel
theorem dX1_isExchangeable_11 : decode cX1_isExchangeable 11 = .ok (.aload_n 0, 1) := by decide +kernel
theorem dX1_isExchangeable_12 : decode cX1_isExchangeable 12 = .ok (.aload_n 1, 1) := by decide +kernel
theorem dX1_isExchangeable_13 : decode cX1_isExchangeable 13 = .ok (.invokevirtual 53, 3) := by decide +kernel
theorem dX1_isExchangeable_16 : decode cX1_isExchangeable 16 = .ok (.ifCond .ne 7, 3) := by decide +kernel
theorem dX1_isExchangeable_19 : decode cX1_isExchangeable 19 = .ok (.iconst 1, 1) := by decide +kernel
theorem dX1_isExchangeable_20 : decode cX1_isExchangeable 20 = .ok (.goto 4, 3) := by decide +kernel
theorem dX1_isExchangeable_23 : decode cX1_isExchangeable 23 = .ok (.iconst 0, 1) := by decide +kernel
theorem dX1_isExchangeable_24 : decode cX1_isExchangeable 24 = .ok (.ireturn, 1) := by decide +kernel
set_option maxRecDepth 20000 in
theorem ggX1_isMergeable_X1_differences : GoodIn wsX1_isMergeable wsX1_differences := goodIn_r _ [8, 2, 3, 9, 10, 11, 12, 13, 14, 15, 16, 21, 22, 23, 24, 25, 26, 27, 28] (by decide +kernel) (by decide +kernel)
set_option maxRecDepth 20000 in
theorem gX1_isMergeable_X1_differences : GoodIn wsX1_isMergeable (wsV RX1 57 RX1 yX1_differences wsX1_differences) := goodIn_app (goodIn_of _ (by decide +kernel)) ggX1_isMergeable_X1_differences
set_option maxRecDepth 20000 in
theorem ggX1_isMergeable_X0_isJoinable : GoodIn wsX1_isMergeable wsX0_isJoinable := goodIn_r _ [20, 15, 16, 26, 27, 28] (by decide +kernel) (by decide +kernel)
set_option maxRecDepth 20000 in
theorem gX1_isMergeable_X0_isJoinable : GoodIn wsX1_isMergeable (wsV RX1 60 RX0 yX0_isJoinable wsX0_isJoinable) := goodIn_app (goodIn_of _ (by decide +kernel)) ggX1_isMergeable_X0_isJoinable
theorem dX1_isMergeable_0 : decode cX1_isMergeable 0 = .ok (.aload_n 0, 1) := by decide +kernel
theorem dX1_isMergeable_1 : decode cX1_isMergeable 1 = .ok (.getfield 20, 3) := by decide +kernel
theorem dX1_isMergeable_4 : decode cX1_isMergeable 4 = .ok (.aload_n 1, 1) := by decide +kernel
theorem dX1_isMergeable_5 : decode cX1_isMergeable 5 = .ok (.getfield 20, 3) := by decide +kernel
theorem dX1_isMergeable_8 : decode cX1_isMergeable 8 = .ok (.if_icmp .ne 44, 3) := by decide +kernel
theorem dX1_isMergeable_11 : decode cX1_isMergeable 11 = .ok (.aload_n 0, 1) := by decide +kernel
theorem dX1_isMergeable_12 : decode cX1_isMergeable 12 = .ok (.aload_n 1, 1) := by decide +kernel
theorem dX1_isMergeable_13 : decode cX1_isMergeable 13 = .ok (.invokevirtual 57, 3) := by decide +kernel
theorem dX1_isMergeable_16 : decode cX1_isMergeable 16 = .ok (.iconst 1, 1) := by decide +kernel
theorem dX1_isMergeable_17 : decode cX1_isMergeable 17 = .ok (.if_icmp .gt 35, 3) := by decide +kernel
theorem dX1_isMergeable_20 : decode cX1_isMergeable 20 = .ok (.aload_n 0, 1) := by decide +kernel
theorem dX1_isMergeable_21 : decode cX1_isMergeable 21 = .ok (.getfield 7, 3) := by decide +kernel
theorem dX1_isMergeable_24 : decode cX1_isMergeable 24 = .ok (.aload_n 1, 1) := by decide +kernel
theorem dX1_isMergeable_25 : decode cX1_isMergeable 25 = .ok (.getfield 7, 3) := by decide +kernel
theorem dX1_isMergeable_28 : decode cX1_isMergeable 28 = .ok (.invokevirtual 60, 3) := by decide +kernel
theorem dX1_isMergeable_31 : decode cX1_isMergeable 31 = .ok (.ifCond .eq 21, 3) := by decide +kernel
theorem dX1_isMergeable_34 : decode cX1_isMergeable 34 = .ok (.aload_n 0, 1) := by decide +kernel
theorem dX1_isMergeable_35 : decode cX1_isMergeable 35 = .ok (.getfield 13, 3) := by decide +kernel
theorem dX1_isMergeable_38 : decode cX1_isMergeable 38 = .ok (.aload_n 1, 1) := by decide +kernel
theorem dX1_isMergeable_39 : decode cX1_isMergeable 39 = .ok (.getfield 13, 3) := by decide +kernel
theorem dX1_isMergeable_42 : decode cX1_isMergeable 42 = .ok (.invokevirtual 60, 3) := by decide +kernel
theorem dX1_isMergeable_45 : decode cX1_isMergeable 45 = .ok (.ifCond .eq 7, 3) := by decide +kernel
theorem dX1_isMergeable_48 : decode cX1_isMergeable 48 = .ok (.iconst 1, 1) := by decide +kernel
theorem dX1_isMergeable_49 : decode cX1_isMergeable 49 = .ok (.goto 4, 3) := by decide +kernel
theorem dX1_isMergeable_52 : decode cX1_isMergeable 52 = .ok (.iconst 0, 1) := by decide +kernel
theorem dX1_isMergeable_53 : decode cX1_isMergeable 53 = .ok (.ireturn, 1) := by decide +kernel
set_option maxRecDepth 20000 in
theorem ggX1_differences_X0_isSame : GoodIn wsX1_differences wsX0_isSame := goodIn_r _ [8, 9, 10, 16, 17, 18] (by decide +kernel) (by decide +kernel)
set_option maxRecDepth 20000 in
theorem gX1_differences_X0_isSame : GoodIn wsX1_differences (wsV RX1 63 RX0 yX0_isSame wsX0_isSame) := goodIn_app (goodIn_of _ (by decide +kernel)) ggX1_differences_X0_isSame
theorem dX1_differences_0 : decode cX1_differences 0 = .ok (.aload_n 0, 1) := by decide +kernel
theorem dX1_differences_1 : decode cX1_differences 1 = .ok (.getfield 7, 3) := by decide +kernel
theorem dX1_differences_4 : decode cX1_differences 4 = .ok (.aload_n 1, 1) := by decide +kernel
theorem dX1_differences_5 : decode cX1_differences 5 = .ok (.getfield 7, 3) := by decide +kernel
theorem dX1_differences_8 : decode cX1_differences 8 = .ok (.invokevirtual 63, 3) := by decide +kernel
theorem dX1_differences_11 : decode cX1_differences 11 = .ok (.ifCond .eq 7, 3) := by decide +kernel
theorem dX1_differences_14 : decode cX1_differences 14 = .ok (.iconst 0, 1) := by decide +kernel
theorem dX1_differences_15 : decode cX1_differences 15 = .ok (.goto 4, 3) := by decide +kernel
theorem dX1_differences_18 : decode cX1_differences 18 = .ok (.iconst 1, 1) := by decide +kernel
theorem dX1_differences_19 : decode cX1_differences 19 = .ok (.istore_n 2, 1) := by decide +kernel
theorem dX1_differences_20 : decode cX1_differences 20 = .ok (.iload_n 2, 1) := by decide +kernel
theorem dX1_differences_21 : decode cX1_differences 21 = .ok (.aload_n 0, 1) := by decide +kernel
theorem dX1_differences_22 : decode cX1_differences 22 = .ok (.getfield 13, 3) := by decide +kernel
theorem dX1_differences_25 : decode cX1_differences 25 = .ok (.aload_n 1, 1) := by decide +kernel
theorem dX1_differences_26 : decode cX1_differences 26 = .ok (.getfield 13, 3) := by decide +kernel
theorem dX1_differences_29 : decode cX1_differences 29 = .ok (.invokevirtual 63, 3) := by decide +kernel
theorem dX1_differences_32 : decode cX1_differences 32 = .ok (.ifCond .eq 7, 3) := by decide +kernel
theorem dX1_differences_35 : decode cX1_differences 35 = .ok (.iconst 0, 1) := by decide +kernel
theorem dX1_differences_36 : decode cX1_differences 36 = .ok (.goto 4, 3) := by decide +kernel
theorem dX1_differences_39 : decode cX1_differences 39 = .ok (.iconst 1, 1) := by decide +kernel
theorem dX1_differences_40 : decode cX1_differences 40 = .ok (.iadd, 1) := by decide +kernel
theorem dX1_differences_41 : decode cX1_differences 41 = .ok (.istore_n 2, 1) := by decide +kernel
theorem dX1_differences_42 : decode cX1_differences 42 = .ok (.iload_n 2, 1) := by decide +kernel
theorem dX1_differences_43 : decode cX1_differences 43 = .ok (.aload_n 0, 1) := by decide +kernel
theorem dX1_differences_44 : decode cX1_differences 44 = .ok (.getfield 16, 3) := by decide +kernel
theorem dX1_differences_47 : decode cX1_differences 47 = .ok (.aload_n 1, 1) := by decide +kernel
theorem dX1_differences_48 : decode cX1_differences 48 = .ok (.getfield 16, 3) := by decide +kernel
theorem dX1_differences_51 : decode cX1_differences 51 = .ok (.if_icmp .ne 7, 3) := by decide +kernel
theorem dX1_differences_54 : decode cX1_differences 54 = .ok (.iconst 0, 1) := by decide +kernel
theorem dX1_differences_55 : decode cX1_differences 55 = .ok (.goto 4, 3) := by decide +kernel
theorem dX1_differences_58 : decode cX1_differences 58 = .ok (.iconst 1, 1) := by decide +kernel
theorem dX1_differences_59 : decode cX1_differences 59 = .ok (.iadd, 1) := by decide +kernel
theorem dX1_differences_60 : decode cX1_differences 60 = .ok (.istore_n 2, 1) := by decide +kernel
theorem dX1_differences_61 : decode cX1_differences 61 = .ok (.iload_n 2, 1) := by decide +kernel
theorem dX1_differences_62 : decode cX1_differences 62 = .ok (.ireturn, 1) := by decide +kernel
set_option maxRecDepth 20000 in
theorem ggX1_absorb_X0_joined : GoodIn wsX1_absorb wsX0_joined := goodIn_r _ [9, 10, 11, 8, 12, 13, 14, 15, 16, 17, 18, 19, 20, 21, 22, 23, 24, 25, 26, 27, 28, 29, 30, 36, 37, 38] (by decide +kernel) (by decide +kernel)
set_option maxRecDepth 20000 in
theorem gX1_absorb_X0_joined : GoodIn wsX1_absorb (wsV RX1 66 RX0 yX0_joined wsX0_joined) := goodIn_app (goodIn_of _ (by decide +kernel)) ggX1_absorb_X0_joined
theorem dX1_absorb_0 : decode cX1_absorb 0 = .ok (.aload_n 0, 1) := by decide +kernel
theorem dX1_absorb_1 : decode cX1_absorb 1 = .ok (.aload_n 0, 1) := by decide +kernel
theorem dX1_absorb_2 : decode cX1_absorb 2 = .ok (.getfield 7, 3) := by decide +kernel
theorem dX1_absorb_5 : decode cX1_absorb 5 = .ok (.aload_n 1, 1) := by decide +kernel
theorem dX1_absorb_6 : decode cX1_absorb 6 = .ok (.getfield 7, 3) := by decide +kernel
theorem dX1_absorb_9 : decode cX1_absorb 9 = .ok (.invokevirtual 66, 3) := by decide +kernel
theorem dX1_absorb_12 : decode cX1_absorb 12 = .ok (.putfield 7, 3) := by decide +kernel
theorem dX1_absorb_15 : decode cX1_absorb 15 = .ok (.aload_n 0, 1) := by decide +kernel
theorem dX1_absorb_16 : decode cX1_absorb 16 = .ok (.aload_n 0, 1) := by decide +kernel
theorem dX1_absorb_17 : decode cX1_absorb 17 = .ok (.getfield 13, 3) := by decide +kernel
theorem dX1_absorb_20 : decode cX1_absorb 20 = .ok (.aload_n 1, 1) := by decide +kernel
theorem dX1_absorb_21 : decode cX1_absorb 21 = .ok (.getfield 13, 3) := by decide +kernel
theorem dX1_absorb_24 : decode cX1_absorb 24 = .ok (.invokevirtual 66, 3) := by decide +kernel
theorem dX1_absorb_27 : decode cX1_absorb 27 = .ok (.putfield 13, 3) := by decide +kernel
theorem dX1_absorb_30 : decode cX1_absorb 30 = .ok (.aload_n 0, 1) := by decide +kernel
theorem dX1_absorb_31 : decode cX1_absorb 31 = .ok (.dup, 1) := by decide +kernel
theorem dX1_absorb_32 : decode cX1_absorb 32 = .ok (.getfield 16, 3) := by decide +kernel
theorem dX1_absorb_35 : decode cX1_absorb 35 = .ok (.aload_n 1, 1) := by decide +kernel
theorem dX1_absorb_36 : decode cX1_absorb 36 = .ok (.getfield 16, 3) := by decide +kernel
theorem dX1_absorb_39 : decode cX1_absorb 39 = .ok (.ior, 1) := by decide +kernel
theorem dX1_absorb_40 : decode cX1_absorb 40 = .ok (.putfield 16, 3) := by decide +kernel
theorem dX1_absorb_43 : decode cX1_absorb 43 = .ok (.aload_n 0, 1) := by decide +kernel
theorem dX1_absorb_44 : decode cX1_absorb 44 = .ok (.dup, 1) := by decide +kernel
theorem dX1_absorb_45 : decode cX1_absorb 45 = .ok (.getfield 70, 3) := by decide +kernel
theorem dX1_absorb_48 : decode cX1_absorb 48 = .ok (.aload_n 1, 1) := by decide +kernel
theorem dX1_absorb_49 : decode cX1_absorb 49 = .ok (.getfield 70, 3) := by decide +kernel
theorem dX1_absorb_52 : decode cX1_absorb 52 = .ok (.iadd, 1) := by decide +kernel
theorem dX1_absorb_53 : decode cX1_absorb 53 = .ok (.putfield 70, 3) := by decide +kernel
theorem dX1_absorb_56 : decode cX1_absorb 56 = .ok (.return_, 1) := by decide +kernel
set_option maxRecDepth 20000 in
theorem ggX2_init_Jx4a65c_init_da8c8 : GoodIn wsX2_init wsJx4a65c_init_da8c8 := goodIn_r _ [12, 13, 14, 15, 16, 17, 18, 19, 20, 21, 22, 23, 24, 2, 3, 25, 26, 27] (by decide +kernel) (by decide +kernel)
set_option maxRecDepth 20000 in
theorem gX2_init_Jx4a65c_init_da8c8 : GoodIn wsX2_init (wsJx4a65c_init_da8c8) := ggX2_init_Jx4a65c_init_da8c8
theorem dX2_init_0 : decode cX2_init 0 = .ok (.aload_n 0, 1) := by decide +kernel
theorem dX2_init_1 : decode cX2_init 1 = .ok (.invokespecial 1, 3) := by decide +kernel
theorem dX2_init_4 : decode cX2_init 4 = .ok (.aload_n 0, 1) := by decide +kernel
theorem dX2_init_5 : decode cX2_init 5 = .ok (.new 7, 3) := by decide +kernel
theorem dX2_init_8 : decode cX2_init 8 = .ok (.dup, 1) := by decide +kernel
theorem dX2_init_9 : decode cX2_init 9 = .ok (.invokespecial 9, 3) := by decide +kernel
theorem dX2_init_12 : decode cX2_init 12 = .ok (.putfield 10, 3) := by decide +kernel
theorem dX2_init_15 : decode cX2_init 15 = .ok (.aload_n 0, 1) := by decide +kernel
theorem dX2_init_16 : decode cX2_init 16 = .ok (.sipush 128, 3) := by decide +kernel
theorem dX2_init_19 : decode cX2_init 19 = .ok (.newarray .int, 2) := by decide +kernel
theorem dX2_init_21 : decode cX2_init 21 = .ok (.putfield 16, 3) := by decide +kernel
theorem dX2_init_24 : decode cX2_init 24 = .ok (.return_, 1) := by decide +kernel
set_option maxRecDepth 20000 in
theorem ggX2_add_X2_isRange : GoodIn wsX2_add wsX2_isRange := goodIn_r _ [15] (by decide +kernel) (by decide +kernel)
set_option maxRecDepth 20000 in
theorem gX2_add_X2_isRange : GoodIn wsX2_add (va_wsS RX2 20 yX2_isRange wsX2_isRange) := goodIn_app (goodIn_of _ (by decide +kernel)) ggX2_add_X2_isRange
set_option maxRecDepth 20000 in
theorem ggX2_add_Jx4a65c_size_8abf5 : GoodIn wsX2_add wsJx4a65c_size_8abf5 := goodIn_r _ [20, 21, 108, 109, 110] (by decide +kernel) (by decide +kernel)
set_option maxRecDepth 20000 in
theorem gX2_add_Jx4a65c_size_8abf5 : GoodIn wsX2_add (wsV RX2 33 RJx4a65c yJx4a65c_size_8abf5 wsJx4a65c_size_8abf5) := goodIn_app (goodIn_of _ (by decide +kernel)) ggX2_add_Jx4a65c_size_8abf5
set_option maxRecDepth 20000 in
theorem ggX2_add_X0_init : GoodIn wsX2_add wsX0_init := goodIn_r _ [24, 25, 26, 27, 28, 29, 30, 31, 14, 32, 100, 101, 102] (by decide +kernel) (by decide +kernel)
set_option maxRecDepth 20000 in
theorem gX2_add_X0_init : GoodIn wsX2_add (wsX0_init) := ggX2_add_X0_init
set_option maxRecDepth 20000 in
theorem ggX2_add_X1_init : GoodIn wsX2_add wsX1_init := goodIn_r _ [35, 36, 26, 27, 37, 38, 39, 40, 103, 104, 105, 106, 107] (by decide +kernel) (by decide +kernel)
set_option maxRecDepth 20000 in
theorem gX2_add_X1_init : GoodIn wsX2_add (wsX1_init) := ggX2_add_X1_init
set_option maxRecDepth 20000 in
theorem ggX2_add_Jx4a65c_add_9ea2d : GoodIn wsX2_add wsJx4a65c_add_9ea2d := goodIn_r _ [44, 45, 46, 47, 21, 48, 49, 50, 19, 51, 52, 53, 54, 55, 56, 57, 58, 59, 60, 61, 62, 63, 64, 65, 66, 67, 68, 69, 70, 71, 72, 73, 74, 75, 76, 77, 78, 79, 80, 81, 82, 83, 84, 85, 86, 87, 88, 89, 90, 91, 92, 93, 94, 108, 109, 110] (by decide +kernel) (by decide +kernel)
set_option maxRecDepth 20000 in
theorem gX2_add_Jx4a65c_add_9ea2d : GoodIn wsX2_add (wsV RX2 52 RJx4a65c yJx4a65c_add_9ea2d wsJx4a65c_add_9ea2d) := goodIn_app (goodIn_of _ (by decide +kernel)) ggX2_add_Jx4a65c_add_9ea2d
theorem dX2_add_0 : decode cX2_add 0 = .ok (.iload_n 1, 1) := by decide +kernel
theorem dX2_add_1 : decode cX2_add 1 = .ok (.iload_n 2, 1) := by decide +kernel
theorem dX2_add_2 : decode cX2_add 2 = .ok (.invokestatic 20, 3) := by decide +kernel
theorem dX2_add_5 : decode cX2_add 5 = .ok (.ifCond .eq 12, 3) := by decide +kernel
theorem dX2_add_8 : decode cX2_add 8 = .ok (.iload_n 3, 1) := by decide +kernel
theorem dX2_add_9 : decode cX2_add 9 = .ok (.iload 4, 2) := by decide +kernel
theorem dX2_add_11 : decode cX2_add 11 = .ok (.invokestatic 20, 3) := by decide +kernel
theorem dX2_add_14 : decode cX2_add 14 = .ok (.ifCond .ne 13, 3) := by decide +kernel
theorem dX2_add_17 : decode cX2_add 17 = .ok (.new 24, 3) := by decide +kernel
theorem dX2_add_20 : decode cX2_add 20 = .ok (.dup, 1) := by decide +kernel
theorem dX2_add_21 : decode cX2_add 21 = .ok (.ldc 26, 2) := by decide +kernel
theorem dX2_add_23 : decode cX2_add 23 = .ok (.invokespecial 28, 3) := by decide +kernel
theorem dX2_add_26 : decode cX2_add 26 = .ok (.athrow, 1) := by decide +kernel
theorem dX2_add_27 : decode cX2_add 27 = .ok (.iload 5, 2) := by decide +kernel
theorem dX2_add_29 : decode cX2_add 29 = .ok (.iconst 1, 1) := by decide +kernel
theorem dX2_add_30 : decode cX2_add 30 = .ok (.if_icmp .lt 10, 3) := by decide +kernel
theorem dX2_add_33 : decode cX2_add 33 = .ok (.iload 5, 2) := by decide +kernel
theorem dX2_add_35 : decode cX2_add 35 = .ok (.bipush 15, 2) := by decide +kernel
theorem dX2_add_37 : decode cX2_add 37 = .ok (.if_icmp .le 13, 3) := by decide +kernel
theorem dX2_add_40 : decode cX2_add 40 = .ok (.new 24, 3) := by decide +kernel
theorem dX2_add_43 : decode cX2_add 43 = .ok (.dup, 1) := by decide +kernel
theorem dX2_add_44 : decode cX2_add 44 = .ok (.ldc 31, 2) := by decide +kernel
theorem dX2_add_46 : decode cX2_add 46 = .ok (.invokespecial 28, 3) := by decide +kernel
theorem dX2_add_49 : decode cX2_add 49 = .ok (.athrow, 1) := by decide +kernel
theorem dX2_add_50 : decode cX2_add 50 = .ok (.aload_n 0, 1) := by decide +kernel
theorem dX2_add_51 : decode cX2_add 51 = .ok (.getfield 10, 3) := by decide +kernel
theorem dX2_add_54 : decode cX2_add 54 = .ok (.invokevirtual 33, 3) := by decide +kernel
theorem dX2_add_57 : decode cX2_add 57 = .ok (.bipush 16, 2) := by decide +kernel
theorem dX2_add_59 : decode cX2_add 59 = .ok (.if_icmp .lt 13, 3) := by decide +kernel
theorem dX2_add_62 : decode cX2_add 62 = .ok (.new 37, 3) := by decide +kernel
theorem dX2_add_65 : decode cX2_add 65 = .ok (.dup, 1) := by decide +kernel
theorem dX2_add_66 : decode cX2_add 66 = .ok (.ldc 39, 2) := by decide +kernel
theorem dX2_add_68 : decode cX2_add 68 = .ok (.invokespecial 41, 3) := by decide +kernel
theorem dX2_add_71 : decode cX2_add 71 = .ok (.athrow, 1) := by decide +kernel
theorem dX2_add_72 : decode cX2_add 72 = .ok (.new 42, 3) := by decide +kernel
theorem dX2_add_75 : decode cX2_add 75 = .ok (.dup, 1) := by decide +kernel
theorem dX2_add_76 : decode cX2_add 76 = .ok (.iload_n 1, 1) := by decide +kernel
theorem dX2_add_77 : decode cX2_add 77 = .ok (.iload_n 2, 1) := by decide +kernel
theorem dX2_add_78 : decode cX2_add 78 = .ok (.invokespecial 44, 3) := by decide +kernel
theorem dX2_add_81 : decode cX2_add 81 = .ok (.astore 7, 2) := by decide +kernel
theorem dX2_add_83 : decode cX2_add 83 = .ok (.new 42, 3) := by decide +kernel
theorem dX2_add_86 : decode cX2_add 86 = .ok (.dup, 1) := by decide +kernel
theorem dX2_add_87 : decode cX2_add 87 = .ok (.iload_n 3, 1) := by decide +kernel
theorem dX2_add_88 : decode cX2_add 88 = .ok (.iload 4, 2) := by decide +kernel
theorem dX2_add_90 : decode cX2_add 90 = .ok (.invokespecial 44, 3) := by decide +kernel
theorem dX2_add_93 : decode cX2_add 93 = .ok (.astore 8, 2) := by decide +kernel
theorem dX2_add_95 : decode cX2_add 95 = .ok (.aload_n 0, 1) := by decide +kernel
theorem dX2_add_96 : decode cX2_add 96 = .ok (.getfield 10, 3) := by decide +kernel
theorem dX2_add_99 : decode cX2_add 99 = .ok (.new 47, 3) := by decide +kernel
theorem dX2_add_102 : decode cX2_add 102 = .ok (.dup, 1) := by decide +kernel
theorem dX2_add_103 : decode cX2_add 103 = .ok (.aload 7, 2) := by decide +kernel
theorem dX2_add_105 : decode cX2_add 105 = .ok (.aload 8, 2) := by decide +kernel
theorem dX2_add_107 : decode cX2_add 107 = .ok (.iload 5, 2) := by decide +kernel
theorem dX2_add_109 : decode cX2_add 109 = .ok (.iload 6, 2) := by decide +kernel
theorem dX2_add_111 : decode cX2_add 111 = .ok (.invokespecial 49, 3) := by decide +kernel
theorem dX2_add_114 : decode cX2_add 114 = .ok (.invokevirtual 52, 3) := by decide +kernel
theorem dX2_add_117 : decode cX2_add 117 = .ok (.pop, 1) := by decide +kernel
theorem dX2_add_118 : decode cX2_add 118 = .ok (.aload_n 0, 1) := by decide +kernel
theorem dX2_add_119 : decode cX2_add 119 = .ok (.getfield 10, 3) := by decide +kernel
theorem dX2_add_122 : decode cX2_add 122 = .ok (.invokevirtual 33, 3) := by decide +kernel
theorem dX2_add_125 : decode cX2_add 125 = .ok (.iconst 1, 1) := by decide +kernel
theorem dX2_add_126 : decode cX2_add 126 = .ok (.isub, 1) := by decide +kernel
theorem dX2_add_127 : decode cX2_add 127 = .ok (.ireturn, 1) := by decide +kernel
set_option maxRecDepth 20000 in
theorem ggX2_remove_X2_checkPlace : GoodIn wsX2_remove wsX2_checkPlace := goodIn_ca (goodIn_r _ [6, 7, 8, 1, 9, 10, 11, 12, 13, 14, 86, 87, 88, 89, 90, 91, 92, 93] (by decide +kernel) (by decide +kernel)) (goodIn_sub (fun _ h => List.mem_cons_of_mem _ (List.mem_append_right _ h)) (by decide +kernel))
set_option maxRecDepth 20000 in
theorem gX2_remove_X2_checkPlace : GoodIn wsX2_remove (wsV RX2 56 RX2 yX2_checkPlace wsX2_checkPlace) := goodIn_app (goodIn_of _ (by decide +kernel)) ggX2_remove_X2_checkPlace
set_option maxRecDepth 20000 in
theorem ggX2_remove_X2_notePermitted : GoodIn wsX2_remove wsX2_notePermitted := goodIn_r _ [18, 19, 20, 21, 22, 5, 23, 1, 24, 25, 26, 27, 9, 10, 11, 12, 13, 14, 28, 29, 30, 31, 32, 33, 34, 35, 36, 37, 38, 39, 40, 41, 42, 43, 44, 45, 46, 47, 48, 49, 50, 51, 52, 53, 54, 55, 56, 57, 58, 59, 60, 86, 87, 88, 89, 90, 94, 95, 96, 97, 98, 99, 100, 101, 91, 92, 93] (by decide +kernel) (by decide +kernel)
set_option maxRecDepth 20000 in
theorem gX2_remove_X2_notePermitted : GoodIn wsX2_remove (wsV RX2 60 RX2 yX2_notePermitted wsX2_notePermitted) := goodIn_app (goodIn_of _ (by decide +kernel)) ggX2_remove_X2_notePermitted
set_option maxRecDepth 20000 in
theorem ggX2_remove_Jx4a65c_remove_915e3 : GoodIn wsX2_remove wsJx4a65c_remove_915e3 := goodIn_r _ [64, 14, 44, 32, 33, 34, 35, 36, 37, 38, 39, 65, 66, 67, 12, 68, 69, 70, 71, 72, 73, 74, 91, 92, 93] (by decide +kernel) (by decide +kernel)
set_option maxRecDepth 20000 in
theorem gX2_remove_Jx4a65c_remove_915e3 : GoodIn wsX2_remove (wsV RX2 63 RJx4a65c yJx4a65c_remove_915e3 wsJx4a65c_remove_915e3) := goodIn_app (goodIn_of _ (by decide +kernel)) ggX2_remove_Jx4a65c_remove_915e3
set_option maxRecDepth 20000 in
theorem ggX2_remove_X2_changedSinceNoted : GoodIn wsX2_remove wsX2_changedSinceNoted := goodIn_r _ [78, 19, 20, 21, 22, 5, 23, 1, 24, 25, 26, 27, 9, 10, 11, 12, 13, 14, 28, 29, 30, 31, 32, 33, 34, 35, 36, 37, 38, 39, 40, 41, 42, 43, 44, 45, 46, 47, 48, 49, 50, 51, 52, 53, 54, 55, 56, 57, 58, 59, 60, 79, 80, 81, 82, 83, 84, 85, 86, 87, 88, 89, 90, 94, 95, 96, 97, 98, 99, 100, 101, 91, 92, 93] (by decide +kernel) (by decide +kernel)
set_option maxRecDepth 20000 in
theorem gX2_remove_X2_changedSinceNoted : GoodIn wsX2_remove (wsV RX2 67 RX2 yX2_changedSinceNoted wsX2_changedSinceNoted) := goodIn_app (goodIn_of _ (by decide +kernel)) ggX2_remove_X2_changedSinceNoted
theorem dX2_remove_0 : decode cX2_remove 0 = .ok (.aload_n 0, 1) := by decide +kernel
theorem dX2_remove_1 : decode cX2_remove 1 = .ok (.iload_n 1, 1) := by decide +kernel
theorem dX2_remove_2 : decode cX2_remove 2 = .ok (.invokevirtual 56, 3) := by decide +kernel
theorem dX2_remove_5 : decode cX2_remove 5 = .ok (.aload_n 0, 1) := by decide +kernel
theorem dX2_remove_6 : decode cX2_remove 6 = .ok (.invokevirtual 60, 3) := by decide +kernel
theorem dX2_remove_9 : decode cX2_remove 9 = .ok (.aload_n 0, 1) := by decide +kernel
theorem dX2_remove_10 : decode cX2_remove 10 = .ok (.getfield 10, 3) := by decide +kernel
theorem dX2_remove_13 : decode cX2_remove 13 = .ok (.iload_n 1, 1) := by decide +kernel
theorem dX2_remove_14 : decode cX2_remove 14 = .ok (.invokevirtual 63, 3) := by decide +kernel
theorem dX2_remove_17 : decode cX2_remove 17 = .ok (.pop, 1) := by decide +kernel
theorem dX2_remove_18 : decode cX2_remove 18 = .ok (.aload_n 0, 1) := by decide +kernel
theorem dX2_remove_19 : decode cX2_remove 19 = .ok (.invokevirtual 67, 3) := by decide +kernel
theorem dX2_remove_22 : decode cX2_remove 22 = .ok (.ireturn, 1) := by decide +kernel
set_option maxRecDepth 20000 in
theorem ggX2_move_X2_ruleAt : GoodIn wsX2_move wsX2_ruleAt := goodIn_ca (goodIn_r _ [6, 1, 7, 8, 9, 10, 5, 11, 12, 13, 14, 15, 16, 17, 18, 19, 20, 21, 22, 23, 24, 25, 26, 27, 28, 29, 30, 31, 32, 33, 34, 35, 36, 138, 139, 140, 141, 142, 143, 144, 145] (by decide +kernel) (by decide +kernel)) (goodIn_sub (fun _ h => List.mem_cons_of_mem _ (List.mem_append_right _ h)) (by decide +kernel))
set_option maxRecDepth 20000 in
theorem gX2_move_X2_ruleAt : GoodIn wsX2_move (wsV RX2 70 RX2 yX2_ruleAt wsX2_ruleAt) := goodIn_app (goodIn_of _ (by decide +kernel)) ggX2_move_X2_ruleAt
set_option maxRecDepth 20000 in
theorem ggX2_move_X2_checkPlace : GoodIn wsX2_move wsX2_checkPlace := goodIn_ca (goodIn_r _ [11, 12, 13, 1, 14, 15, 16, 17, 18, 19, 138, 139, 140, 141, 142, 143, 144, 145] (by decide +kernel) (by decide +kernel)) (goodIn_sub (fun _ h => List.mem_cons_of_mem _ (List.mem_append_right _ h)) (by decide +kernel))
set_option maxRecDepth 20000 in
theorem gX2_move_X2_checkPlace : GoodIn wsX2_move (wsV RX2 56 RX2 yX2_checkPlace wsX2_checkPlace) := goodIn_app (goodIn_of _ (by decide +kernel)) ggX2_move_X2_checkPlace
set_option maxRecDepth 20000 in
theorem ggX2_move_X2_notePermitted : GoodIn wsX2_move wsX2_notePermitted := goodIn_r _ [40, 41, 42, 43, 44, 5, 45, 1, 7, 46, 47, 48, 14, 15, 16, 17, 18, 19, 20, 21, 22, 23, 24, 25, 26, 27, 28, 29, 30, 31, 32, 33, 34, 35, 36, 49, 50, 51, 52, 53, 54, 55, 56, 57, 58, 59, 60, 61, 62, 63, 64, 138, 139, 140, 141, 142, 146, 147, 148, 149, 150, 151, 152, 153, 143, 144, 145] (by decide +kernel) (by decide +kernel)
set_option maxRecDepth 20000 in
theorem gX2_move_X2_notePermitted : GoodIn wsX2_move (wsV RX2 60 RX2 yX2_notePermitted wsX2_notePermitted) := goodIn_app (goodIn_of _ (by decide +kernel)) ggX2_move_X2_notePermitted
set_option maxRecDepth 20000 in
theorem ggX2_move_Jx4a65c_remove_915e3 : GoodIn wsX2_move wsJx4a65c_remove_915e3 := goodIn_r _ [68, 19, 36, 24, 25, 26, 27, 28, 29, 30, 31, 69, 70, 71, 17, 72, 73, 74, 75, 76, 77, 78, 143, 144, 145] (by decide +kernel) (by decide +kernel)
set_option maxRecDepth 20000 in
theorem gX2_move_Jx4a65c_remove_915e3 : GoodIn wsX2_move (wsV RX2 63 RJx4a65c yJx4a65c_remove_915e3 wsJx4a65c_remove_915e3) := goodIn_app (goodIn_of _ (by decide +kernel)) ggX2_move_Jx4a65c_remove_915e3
set_option maxRecDepth 20000 in
theorem ggX2_move_Jx4a65c_add_7a177 : GoodIn wsX2_move wsJx4a65c_add_7a177 := goodIn_r _ [82, 73, 74, 19, 36, 75, 76, 77, 78, 83, 84, 85, 17, 86, 87, 88, 89, 90, 91, 92, 93, 94, 95, 96, 97, 98, 99, 100, 101, 102, 103, 104, 105, 106, 107, 108, 109, 110, 111, 112, 113, 114, 115, 116, 117, 118, 119, 120, 121, 122, 123, 124, 125, 126, 143, 144, 145] (by decide +kernel) (by decide +kernel)
set_option maxRecDepth 20000 in
theorem gX2_move_Jx4a65c_add_7a177 : GoodIn wsX2_move (wsV RX2 74 RJx4a65c yJx4a65c_add_7a177 wsJx4a65c_add_7a177) := goodIn_app (goodIn_of _ (by decide +kernel)) ggX2_move_Jx4a65c_add_7a177
set_option maxRecDepth 20000 in
theorem ggX2_move_X2_changedSinceNoted : GoodIn wsX2_move wsX2_changedSinceNoted := goodIn_r _ [130, 41, 42, 43, 44, 5, 45, 1, 7, 46, 47, 48, 14, 15, 16, 17, 18, 19, 20, 21, 22, 23, 24, 25, 26, 27, 28, 29, 30, 31, 32, 33, 34, 35, 36, 49, 50, 51, 52, 53, 54, 55, 56, 57, 58, 59, 60, 61, 62, 63, 64, 131, 132, 133, 134, 135, 136, 137, 138, 139, 140, 141, 142, 146, 147, 148, 149, 150, 151, 152, 153, 143, 144, 145] (by decide +kernel) (by decide +kernel)
set_option maxRecDepth 20000 in
theorem gX2_move_X2_changedSinceNoted : GoodIn wsX2_move (wsV RX2 67 RX2 yX2_changedSinceNoted wsX2_changedSinceNoted) := goodIn_app (goodIn_of _ (by decide +kernel)) ggX2_move_X2_changedSinceNoted
theorem dX2_move_0 : decode cX2_move 0 = .ok (.aload_n 0, 1) := by decide +kernel
theorem dX2_move_1 : decode cX2_move 1 = .ok (.iload_n 1, 1) := by decide +kernel
theorem dX2_move_2 : decode cX2_move 2 = .ok (.invokevirtual 70, 3) := by decide +kernel
theorem dX2_move_5 : decode cX2_move 5 = .ok (.astore_n 3, 1) := by decide +kernel
theorem dX2_move_6 : decode cX2_move 6 = .ok (.aload_n 0, 1) := by decide +kernel
theorem dX2_move_7 : decode cX2_move 7 = .ok (.iload_n 2, 1) := by decide +kernel
theorem dX2_move_8 : decode cX2_move 8 = .ok (.invokevirtual 56, 3) := by decide +kernel
theorem dX2_move_11 : decode cX2_move 11 = .ok (.aload_n 0, 1) := by decide +kernel
theorem dX2_move_12 : decode cX2_move 12 = .ok (.invokevirtual 60, 3) := by decide +kernel
theorem dX2_move_15 : decode cX2_move 15 = .ok (.aload_n 0, 1) := by decide +kernel
theorem dX2_move_16 : decode cX2_move 16 = .ok (.getfield 10, 3) := by decide +kernel
theorem dX2_move_19 : decode cX2_move 19 = .ok (.iload_n 1, 1) := by decide +kernel
theorem dX2_move_20 : decode cX2_move 20 = .ok (.invokevirtual 63, 3) := by decide +kernel
theorem dX2_move_23 : decode cX2_move 23 = .ok (.pop, 1) := by decide +kernel
theorem dX2_move_24 : decode cX2_move 24 = .ok (.aload_n 0, 1) := by decide +kernel
theorem dX2_move_25 : decode cX2_move 25 = .ok (.getfield 10, 3) := by decide +kernel
theorem dX2_move_28 : decode cX2_move 28 = .ok (.iload_n 2, 1) := by decide +kernel
theorem dX2_move_29 : decode cX2_move 29 = .ok (.aload_n 3, 1) := by decide +kernel
theorem dX2_move_30 : decode cX2_move 30 = .ok (.invokevirtual 74, 3) := by decide +kernel
theorem dX2_move_33 : decode cX2_move 33 = .ok (.aload_n 0, 1) := by decide +kernel
theorem dX2_move_34 : decode cX2_move 34 = .ok (.invokevirtual 67, 3) := by decide +kernel
theorem dX2_move_37 : decode cX2_move 37 = .ok (.ireturn, 1) := by decide +kernel
set_option maxRecDepth 20000 in
theorem ggX2_rules_Jx4a65c_size_8abf5 : GoodIn wsX2_rules wsJx4a65c_size_8abf5 := goodIn_r _ [6, 7, 13, 14, 15] (by decide +kernel) (by decide +kernel)
set_option maxRecDepth 20000 in
theorem gX2_rules_Jx4a65c_size_8abf5 : GoodIn wsX2_rules (wsV RX2 33 RJx4a65c yJx4a65c_size_8abf5 wsJx4a65c_size_8abf5) := goodIn_app (goodIn_of _ (by decide +kernel)) ggX2_rules_Jx4a65c_size_8abf5
theorem dX2_rules_0 : decode cX2_rules 0 = .ok (.aload_n 0, 1) := by decide +kernel
theorem dX2_rules_1 : decode cX2_rules 1 = .ok (.getfield 10, 3) := by decide +kernel
theorem dX2_rules_4 : decode cX2_rules 4 = .ok (.invokevirtual 33, 3) := by decide +kernel
theorem dX2_rules_7 : decode cX2_rules 7 = .ok (.ireturn, 1) := by decide +kernel
set_option maxRecDepth 20000 in
theorem ggX2_sources_X2_ruleAt : GoodIn wsX2_sources wsX2_ruleAt := goodIn_ca (goodIn_r _ [6, 7, 8, 9, 10, 11, 5, 12, 13, 14, 15, 16, 17, 18, 19, 20, 21, 22, 23, 24, 25, 26, 27, 28, 29, 30, 31, 32, 33, 34, 35, 36, 37, 50, 51, 52, 53, 54, 55, 56, 57] (by decide +kernel) (by decide +kernel)) (goodIn_sub (fun _ h => List.mem_cons_of_mem _ (List.mem_append_right _ h)) (by decide +kernel))
set_option maxRecDepth 20000 in
theorem gX2_sources_X2_ruleAt : GoodIn wsX2_sources (wsV RX2 70 RX2 yX2_ruleAt wsX2_ruleAt) := goodIn_app (goodIn_of _ (by decide +kernel)) ggX2_sources_X2_ruleAt
set_option maxRecDepth 20000 in
theorem ggX2_sources_X0_asNumber : GoodIn wsX2_sources wsX0_asNumber := goodIn_r _ [42, 43, 44, 58, 59, 60] (by decide +kernel) (by decide +kernel)
set_option maxRecDepth 20000 in
theorem gX2_sources_X0_asNumber : GoodIn wsX2_sources (wsV RX2 81 RX0 yX0_asNumber wsX0_asNumber) := goodIn_app (goodIn_of _ (by decide +kernel)) ggX2_sources_X0_asNumber
theorem dX2_sources_0 : decode cX2_sources 0 = .ok (.aload_n 0, 1) := by decide +kernel
theorem dX2_sources_1 : decode cX2_sources 1 = .ok (.iload_n 1, 1) := by decide +kernel
theorem dX2_sources_2 : decode cX2_sources 2 = .ok (.invokevirtual 70, 3) := by decide +kernel
theorem dX2_sources_5 : decode cX2_sources 5 = .ok (.getfield 77, 3) := by decide +kernel
theorem dX2_sources_8 : decode cX2_sources 8 = .ok (.invokevirtual 81, 3) := by decide +kernel
theorem dX2_sources_11 : decode cX2_sources 11 = .ok (.ireturn, 1) := by decide +kernel
set_option maxRecDepth 20000 in
theorem ggX2_destinations_X2_ruleAt : GoodIn wsX2_destinations wsX2_ruleAt := goodIn_ca (goodIn_r _ [6, 7, 8, 9, 10, 11, 5, 12, 13, 14, 15, 16, 17, 18, 19, 20, 21, 22, 23, 24, 25, 26, 27, 28, 29, 30, 31, 32, 33, 34, 35, 36, 37, 50, 51, 52, 53, 54, 55, 56, 57] (by decide +kernel) (by decide +kernel)) (goodIn_sub (fun _ h => List.mem_cons_of_mem _ (List.mem_append_right _ h)) (by decide +kernel))
set_option maxRecDepth 20000 in
theorem gX2_destinations_X2_ruleAt : GoodIn wsX2_destinations (wsV RX2 70 RX2 yX2_ruleAt wsX2_ruleAt) := goodIn_app (goodIn_of _ (by decide +kernel)) ggX2_destinations_X2_ruleAt
set_option maxRecDepth 20000 in
theorem ggX2_destinations_X0_asNumber : GoodIn wsX2_destinations wsX0_asNumber := goodIn_r _ [42, 43, 44, 58, 59, 60] (by decide +kernel) (by decide +kernel)
set_option maxRecDepth 20000 in
theorem gX2_destinations_X0_asNumber : GoodIn wsX2_destinations (wsV RX2 81 RX0 yX0_asNumber wsX0_asNumber) := goodIn_app (goodIn_of _ (by decide +kernel)) ggX2_destinations_X0_asNumber
theorem dX2_destinations_0 : decode cX2_destinations 0 = .ok (.aload_n 0, 1) := by decide +kernel
theorem dX2_destinations_1 : decode cX2_destinations 1 = .ok (.iload_n 1, 1) := by decide +kernel
theorem dX2_destinations_2 : decode cX2_destinations 2 = .ok (.invokevirtual 70, 3) := by decide +kernel
theorem dX2_destinations_5 : decode cX2_destinations 5 = .ok (.getfield 84, 3) := by decide +kernel
theorem dX2_destinations_8 : decode cX2_destinations 8 = .ok (.invokevirtual 81, 3) := by decide +kernel
theorem dX2_destinations_11 : decode cX2_destinations 11 = .ok (.ireturn, 1) := by decide +kernel
set_option maxRecDepth 20000 in
theorem ggX2_protocols_X2_ruleAt : GoodIn wsX2_protocols wsX2_ruleAt := goodIn_ca (goodIn_r _ [6, 7, 8, 9, 10, 11, 5, 12, 13, 14, 15, 16, 17, 18, 19, 20, 21, 22, 23, 24, 25, 26, 27, 28, 29, 30, 31, 32, 33, 34, 35, 36, 37, 43, 44, 45, 46, 47, 48, 49, 50] (by decide +kernel) (by decide +kernel)) (goodIn_sub (fun _ h => List.mem_cons_of_mem _ (List.mem_append_right _ h)) (by decide +kernel))
set_option maxRecDepth 20000 in
theorem gX2_protocols_X2_ruleAt : GoodIn wsX2_protocols (wsV RX2 70 RX2 yX2_ruleAt wsX2_ruleAt) := goodIn_app (goodIn_of _ (by decide +kernel)) ggX2_protocols_X2_ruleAt
theorem dX2_protocols_0 : decode cX2_protocols 0 = .ok (.aload_n 0, 1) := by decide +kernel
theorem dX2_protocols_1 : decode cX2_protocols 1 = .ok (.iload_n 1, 1) := by decide +kernel
theorem dX2_protocols_2 : decode cX2_protocols 2 = .ok (.invokevirtual 70, 3) := by decide +kernel
theorem dX2_protocols_5 : decode cX2_protocols 5 = .ok (.getfield 87, 3) := by decide +kernel
theorem dX2_protocols_8 : decode cX2_protocols 8 = .ok (.ireturn, 1) := by decide +kernel
set_option maxRecDepth 20000 in
theorem ggX2_permits_X2_ruleAt : GoodIn wsX2_permits wsX2_ruleAt := goodIn_ca (goodIn_r _ [6, 7, 8, 9, 10, 11, 5, 12, 13, 14, 15, 16, 17, 18, 19, 20, 21, 22, 23, 24, 25, 26, 27, 28, 29, 30, 31, 32, 33, 34, 35, 36, 37, 43, 44, 45, 46, 47, 48, 49, 50] (by decide +kernel) (by decide +kernel)) (goodIn_sub (fun _ h => List.mem_cons_of_mem _ (List.mem_append_right _ h)) (by decide +kernel))
set_option maxRecDepth 20000 in
theorem gX2_permits_X2_ruleAt : GoodIn wsX2_permits (wsV RX2 70 RX2 yX2_ruleAt wsX2_ruleAt) := goodIn_app (goodIn_of _ (by decide +kernel)) ggX2_permits_X2_ruleAt
theorem dX2_permits_0 : decode cX2_permits 0 = .ok (.aload_n 0, 1) := by decide +kernel
theorem dX2_permits_1 : decode cX2_permits 1 = .ok (.iload_n 1, 1) := by decide +kernel
theorem dX2_permits_2 : decode cX2_permits 2 = .ok (.invokevirtual 70, 3) := by decide +kernel
theorem dX2_permits_5 : decode cX2_permits 5 = .ok (.getfield 91, 3) := by decide +kernel
theorem dX2_permits_8 : decode cX2_permits 8 = .ok (.ireturn, 1) := by decide +kernel
set_option maxRecDepth 20000 in
theorem ggX2_judge_X2_checkPacket : GoodIn wsX2_judge wsX2_checkPacket := goodIn_ca (goodIn_r _ [11, 12, 13] (by decide +kernel) (by decide +kernel)) (goodIn_sub (fun _ h => List.mem_cons_of_mem _ (List.mem_append_right _ h)) (by decide +kernel))
set_option maxRecDepth 20000 in
theorem gX2_judge_X2_checkPacket : GoodIn wsX2_judge (va_wsS RX2 95 yX2_checkPacket wsX2_checkPacket) := goodIn_app (goodIn_of _ (by decide +kernel)) ggX2_judge_X2_checkPacket
set_option maxRecDepth 20000 in
theorem ggX2_judge_X2_firstMatch : GoodIn wsX2_judge wsX2_firstMatch := goodIn_r _ [17, 2, 5, 18, 19, 20, 21, 22, 23, 24, 25, 26, 27, 28, 29, 30, 31, 32, 33, 34, 35, 36, 37, 38, 39, 40, 41, 42, 43, 44, 45, 46, 47, 48, 49, 50, 51, 52, 53, 54, 55, 56, 57, 58, 59, 60, 10, 61, 62, 63, 64, 65, 66, 72, 73, 74, 67, 68, 69, 70, 71, 75, 76, 77] (by decide +kernel) (by decide +kernel)
set_option maxRecDepth 20000 in
theorem gX2_judge_X2_firstMatch : GoodIn wsX2_judge (wsV RX2 99 RX2 yX2_firstMatch wsX2_firstMatch) := goodIn_app (goodIn_of _ (by decide +kernel)) ggX2_judge_X2_firstMatch
set_option maxRecDepth 20000 in
theorem ggX2_judge_Jx4a65c_size_8abf5 : GoodIn wsX2_judge wsJx4a65c_size_8abf5 := goodIn_r _ [22, 23, 72, 73, 74] (by decide +kernel) (by decide +kernel)
set_option maxRecDepth 20000 in
theorem gX2_judge_Jx4a65c_size_8abf5 : GoodIn wsX2_judge (wsV RX2 33 RJx4a65c yJx4a65c_size_8abf5 wsJx4a65c_size_8abf5) := goodIn_app (goodIn_of _ (by decide +kernel)) ggX2_judge_Jx4a65c_size_8abf5
set_option maxRecDepth 20000 in
theorem ggX2_judge_Jx4a65c_get_915e3 : GoodIn wsX2_judge wsJx4a65c_get_915e3 := goodIn_r _ [27, 23, 28, 29, 30, 31, 32, 33, 34, 35, 36, 37, 38, 21, 39, 40, 72, 73, 74] (by decide +kernel) (by decide +kernel)
set_option maxRecDepth 20000 in
theorem gX2_judge_Jx4a65c_get_915e3 : GoodIn wsX2_judge (wsV RX2 112 RJx4a65c yJx4a65c_get_915e3 wsJx4a65c_get_915e3) := goodIn_app (goodIn_of _ (by decide +kernel)) ggX2_judge_Jx4a65c_get_915e3
theorem dX2_judge_0 : decode cX2_judge 0 = .ok (.iload_n 1, 1) := by decide +kernel
theorem dX2_judge_1 : decode cX2_judge 1 = .ok (.iload_n 2, 1) := by decide +kernel
theorem dX2_judge_2 : decode cX2_judge 2 = .ok (.iload_n 3, 1) := by decide +kernel
theorem dX2_judge_3 : decode cX2_judge 3 = .ok (.invokestatic 95, 3) := by decide +kernel
theorem dX2_judge_6 : decode cX2_judge 6 = .ok (.aload_n 0, 1) := by decide +kernel
theorem dX2_judge_7 : decode cX2_judge 7 = .ok (.iload_n 1, 1) := by decide +kernel
theorem dX2_judge_8 : decode cX2_judge 8 = .ok (.iload_n 2, 1) := by decide +kernel
theorem dX2_judge_9 : decode cX2_judge 9 = .ok (.iload_n 3, 1) := by decide +kernel
theorem dX2_judge_10 : decode cX2_judge 10 = .ok (.invokevirtual 99, 3) := by decide +kernel
theorem dX2_judge_13 : decode cX2_judge 13 = .ok (.istore 4, 2) := by decide +kernel
theorem dX2_judge_15 : decode cX2_judge 15 = .ok (.aload_n 0, 1) := by decide +kernel
theorem dX2_judge_16 : decode cX2_judge 16 = .ok (.dup, 1) := by decide +kernel
theorem dX2_judge_17 : decode cX2_judge 17 = .ok (.getfield 103, 3) := by decide +kernel
theorem dX2_judge_20 : decode cX2_judge 20 = .ok (.iconst 1, 1) := by decide +kernel
theorem dX2_judge_21 : decode cX2_judge 21 = .ok (.iadd, 1) := by decide +kernel
theorem dX2_judge_22 : decode cX2_judge 22 = .ok (.putfield 103, 3) := by decide +kernel
theorem dX2_judge_25 : decode cX2_judge 25 = .ok (.iload 4, 2) := by decide +kernel
theorem dX2_judge_27 : decode cX2_judge 27 = .ok (.aload_n 0, 1) := by decide +kernel
theorem dX2_judge_28 : decode cX2_judge 28 = .ok (.getfield 10, 3) := by decide +kernel
theorem dX2_judge_31 : decode cX2_judge 31 = .ok (.invokevirtual 33, 3) := by decide +kernel
theorem dX2_judge_34 : decode cX2_judge 34 = .ok (.if_icmp .lt 31, 3) := by decide +kernel
theorem dX2_judge_37 : decode cX2_judge 37 = .ok (.aload_n 0, 1) := by decide +kernel
theorem dX2_judge_38 : decode cX2_judge 38 = .ok (.dup, 1) := by decide +kernel
theorem dX2_judge_39 : decode cX2_judge 39 = .ok (.getfield 106, 3) := by decide +kernel
theorem dX2_judge_42 : decode cX2_judge 42 = .ok (.iconst 1, 1) := by decide +kernel
theorem dX2_judge_43 : decode cX2_judge 43 = .ok (.iadd, 1) := by decide +kernel
theorem dX2_judge_44 : decode cX2_judge 44 = .ok (.putfield 106, 3) := by decide +kernel
theorem dX2_judge_47 : decode cX2_judge 47 = .ok (.aload_n 0, 1) := by decide +kernel
theorem dX2_judge_48 : decode cX2_judge 48 = .ok (.dup, 1) := by decide +kernel
theorem dX2_judge_49 : decode cX2_judge 49 = .ok (.getfield 109, 3) := by decide +kernel
theorem dX2_judge_52 : decode cX2_judge 52 = .ok (.aload_n 0, 1) := by decide +kernel
theorem dX2_judge_53 : decode cX2_judge 53 = .ok (.getfield 10, 3) := by decide +kernel
theorem dX2_judge_56 : decode cX2_judge 56 = .ok (.invokevirtual 33, 3) := by decide +kernel
theorem dX2_judge_59 : decode cX2_judge 59 = .ok (.iadd, 1) := by decide +kernel
theorem dX2_judge_60 : decode cX2_judge 60 = .ok (.putfield 109, 3) := by decide +kernel
theorem dX2_judge_63 : decode cX2_judge 63 = .ok (.iconst 0, 1) := by decide +kernel
theorem dX2_judge_64 : decode cX2_judge 64 = .ok (.ireturn, 1) := by decide +kernel
theorem dX2_judge_65 : decode cX2_judge 65 = .ok (.aload_n 0, 1) := by decide +kernel
theorem dX2_judge_66 : decode cX2_judge 66 = .ok (.getfield 10, 3) := by decide +kernel
theorem dX2_judge_69 : decode cX2_judge 69 = .ok (.iload 4, 2) := by decide +kernel
theorem dX2_judge_71 : decode cX2_judge 71 = .ok (.invokevirtual 112, 3) := by decide +kernel
theorem dX2_judge_74 : decode cX2_judge 74 = .ok (.checkcast 47, 3) := by decide +kernel
theorem dX2_judge_77 : decode cX2_judge 77 = .ok (.astore 5, 2) := by decide +kernel
theorem dX2_judge_79 : decode cX2_judge 79 = .ok (.aload 5, 2) := by decide +kernel
theorem dX2_judge_81 : decode cX2_judge 81 = .ok (.dup, 1) := by decide +kernel
theorem dX2_judge_82 : decode cX2_judge 82 = .ok (.getfield 115, 3) := by decide +kernel
theorem dX2_judge_85 : decode cX2_judge 85 = .ok (.iconst 1, 1) := by decide +kernel
theorem dX2_judge_86 : decode cX2_judge 86 = .ok (.iadd, 1) := by decide +kernel
theorem dX2_judge_87 : decode cX2_judge 87 = .ok (.putfield 115, 3) := by decide +kernel
theorem dX2_judge_90 : decode cX2_judge 90 = .ok (.aload_n 0, 1) := by decide +kernel
theorem dX2_judge_91 : decode cX2_judge 91 = .ok (.dup, 1) := by decide +kernel
theorem dX2_judge_92 : decode cX2_judge 92 = .ok (.getfield 109, 3) := by decide +kernel
theorem dX2_judge_95 : decode cX2_judge 95 = .ok (.iload 4, 2) := by decide +kernel
theorem dX2_judge_97 : decode cX2_judge 97 = .ok (.iconst 1, 1) := by decide +kernel
theorem dX2_judge_98 : decode cX2_judge 98 = .ok (.iadd, 1) := by decide +kernel
theorem dX2_judge_99 : decode cX2_judge 99 = .ok (.iadd, 1) := by decide +kernel
theorem dX2_judge_100 : decode cX2_judge 100 = .ok (.putfield 109, 3) := by decide +kernel
theorem dX2_judge_103 : decode cX2_judge 103 = .ok (.aload 5, 2) := by decide +kernel
theorem dX2_judge_105 : decode cX2_judge 105 = .ok (.getfield 91, 3) := by decide +kernel
theorem dX2_judge_108 : decode cX2_judge 108 = .ok (.ireturn, 1) := by decide +kernel
set_option maxRecDepth 20000 in
theorem ggX2_decider_X2_checkPacket : GoodIn wsX2_decider wsX2_checkPacket := goodIn_ca (goodIn_r _ [7, 8, 9] (by decide +kernel) (by decide +kernel)) (goodIn_sub (fun _ h => List.mem_cons_of_mem _ (List.mem_append_right _ h)) (by decide +kernel))
set_option maxRecDepth 20000 in
theorem gX2_decider_X2_checkPacket : GoodIn wsX2_decider (va_wsS RX2 95 yX2_checkPacket wsX2_checkPacket) := goodIn_app (goodIn_of _ (by decide +kernel)) ggX2_decider_X2_checkPacket
set_option maxRecDepth 20000 in
theorem ggX2_decider_X2_firstMatch : GoodIn wsX2_decider wsX2_firstMatch := goodIn_r _ [13, 3, 14, 15, 16, 17, 18, 19, 20, 21, 22, 23, 24, 25, 26, 27, 28, 29, 30, 31, 32, 33, 34, 35, 36, 37, 38, 39, 40, 41, 42, 43, 44, 45, 46, 47, 48, 49, 50, 51, 52, 53, 54, 55, 56, 57, 6, 58, 59, 60, 61, 62, 63, 64, 65, 66, 67, 68, 69, 70, 71, 72, 73, 74] (by decide +kernel) (by decide +kernel)
set_option maxRecDepth 20000 in
theorem gX2_decider_X2_firstMatch : GoodIn wsX2_decider (wsV RX2 99 RX2 yX2_firstMatch wsX2_firstMatch) := goodIn_app (goodIn_of _ (by decide +kernel)) ggX2_decider_X2_firstMatch
set_option maxRecDepth 20000 in
theorem ggX2_decider_Jx4a65c_size_8abf5 : GoodIn wsX2_decider wsJx4a65c_size_8abf5 := goodIn_r _ [19, 20, 64, 65, 66] (by decide +kernel) (by decide +kernel)
set_option maxRecDepth 20000 in
theorem gX2_decider_Jx4a65c_size_8abf5 : GoodIn wsX2_decider (wsV RX2 33 RJx4a65c yJx4a65c_size_8abf5 wsJx4a65c_size_8abf5) := goodIn_app (goodIn_of _ (by decide +kernel)) ggX2_decider_Jx4a65c_size_8abf5
theorem dX2_decider_0 : decode cX2_decider 0 = .ok (.iload_n 1, 1) := by decide +kernel
theorem dX2_decider_1 : decode cX2_decider 1 = .ok (.iload_n 2, 1) := by decide +kernel
theorem dX2_decider_2 : decode cX2_decider 2 = .ok (.iload_n 3, 1) := by decide +kernel
theorem dX2_decider_3 : decode cX2_decider 3 = .ok (.invokestatic 95, 3) := by decide +kernel
theorem dX2_decider_6 : decode cX2_decider 6 = .ok (.aload_n 0, 1) := by decide +kernel
theorem dX2_decider_7 : decode cX2_decider 7 = .ok (.iload_n 1, 1) := by decide +kernel
theorem dX2_decider_8 : decode cX2_decider 8 = .ok (.iload_n 2, 1) := by decide +kernel
theorem dX2_decider_9 : decode cX2_decider 9 = .ok (.iload_n 3, 1) := by decide +kernel
theorem dX2_decider_10 : decode cX2_decider 10 = .ok (.invokevirtual 99, 3) := by decide +kernel
theorem dX2_decider_13 : decode cX2_decider 13 = .ok (.istore 4, 2) := by decide +kernel
theorem dX2_decider_15 : decode cX2_decider 15 = .ok (.iload 4, 2) := by decide +kernel
theorem dX2_decider_17 : decode cX2_decider 17 = .ok (.aload_n 0, 1) := by decide +kernel
theorem dX2_decider_18 : decode cX2_decider 18 = .ok (.getfield 10, 3) := by decide +kernel
theorem dX2_decider_21 : decode cX2_decider 21 = .ok (.invokevirtual 33, 3) := by decide +kernel
theorem dX2_decider_24 : decode cX2_decider 24 = .ok (.if_icmp .lt 13, 3) := by decide +kernel
theorem dX2_decider_27 : decode cX2_decider 27 = .ok (.new 118, 3) := by decide +kernel
theorem dX2_decider_30 : decode cX2_decider 30 = .ok (.dup, 1) := by decide +kernel
theorem dX2_decider_31 : decode cX2_decider 31 = .ok (.ldc 120, 2) := by decide +kernel
theorem dX2_decider_33 : decode cX2_decider 33 = .ok (.invokespecial 122, 3) := by decide +kernel
theorem dX2_decider_36 : decode cX2_decider 36 = .ok (.athrow, 1) := by decide +kernel
theorem dX2_decider_37 : decode cX2_decider 37 = .ok (.iload 4, 2) := by decide +kernel
theorem dX2_decider_39 : decode cX2_decider 39 = .ok (.ireturn, 1) := by decide +kernel
set_option maxRecDepth 20000 in
theorem ggX2_hits_X2_ruleAt : GoodIn wsX2_hits wsX2_ruleAt := goodIn_ca (goodIn_r _ [6, 7, 8, 9, 10, 11, 5, 12, 13, 14, 15, 16, 17, 18, 19, 20, 21, 22, 23, 24, 25, 26, 27, 28, 29, 30, 31, 32, 33, 34, 35, 36, 37, 43, 44, 45, 46, 47, 48, 49, 50] (by decide +kernel) (by decide +kernel)) (goodIn_sub (fun _ h => List.mem_cons_of_mem _ (List.mem_append_right _ h)) (by decide +kernel))
set_option maxRecDepth 20000 in
theorem gX2_hits_X2_ruleAt : GoodIn wsX2_hits (wsV RX2 70 RX2 yX2_ruleAt wsX2_ruleAt) := goodIn_app (goodIn_of _ (by decide +kernel)) ggX2_hits_X2_ruleAt
theorem dX2_hits_0 : decode cX2_hits 0 = .ok (.aload_n 0, 1) := by decide +kernel
theorem dX2_hits_1 : decode cX2_hits 1 = .ok (.iload_n 1, 1) := by decide +kernel
theorem dX2_hits_2 : decode cX2_hits 2 = .ok (.invokevirtual 70, 3) := by decide +kernel
theorem dX2_hits_5 : decode cX2_hits 5 = .ok (.getfield 115, 3) := by decide +kernel
theorem dX2_hits_8 : decode cX2_hits 8 = .ok (.ireturn, 1) := by decide +kernel
theorem dX2_misses_0 : decode cX2_misses 0 = .ok (.aload_n 0, 1) := by decide +kernel
theorem dX2_misses_1 : decode cX2_misses 1 = .ok (.getfield 106, 3) := by decide +kernel
theorem dX2_misses_4 : decode cX2_misses 4 = .ok (.ireturn, 1) := by decide +kernel
theorem dX2_averageLooks_0 : decode cX2_averageLooks 0 = .ok (.aload_n 0, 1) := by decide +kernel
theorem dX2_averageLooks_1 : decode cX2_averageLooks 1 = .ok (.getfield 103, 3) := by decide +kernel
theorem dX2_averageLooks_4 : decode cX2_averageLooks 4 = .ok (.ifCond .ne 5, 3) := by decide +kernel
theorem dX2_averageLooks_7 : decode cX2_averageLooks 7 = .ok (.fconst 0, 1) := by decide +kernel
theorem dX2_averageLooks_8 : decode cX2_averageLooks 8 = .ok (.freturn, 1) := by decide +kernel
theorem dX2_averageLooks_9 : decode cX2_averageLooks 9 = .ok (.aload_n 0, 1) := by decide +kernel
theorem dX2_averageLooks_10 : decode cX2_averageLooks 10 = .ok (.getfield 109, 3) := by decide +kernel
theorem dX2_averageLooks_13 : decode cX2_averageLooks 13 = .ok (.i2f, 1) := by decide +kernel
theorem dX2_averageLooks_14 : decode cX2_averageLooks 14 = .ok (.aload_n 0, 1) := by decide +kernel
theorem dX2_averageLooks_15 : decode cX2_averageLooks 15 = .ok (.getfield 103, 3) := by decide +kernel
theorem dX2_averageLooks_18 : decode cX2_averageLooks 18 = .ok (.i2f, 1) := by decide +kernel
theorem dX2_averageLooks_19 : decode cX2_averageLooks 19 = .ok (.fdiv, 1) := by decide +kernel
theorem dX2_averageLooks_20 : decode cX2_averageLooks 20 = .ok (.freturn, 1) := by decide +kernel
set_option maxRecDepth 20000 in
theorem ggX2_decides_X2_ruleAt : GoodIn wsX2_decides wsX2_ruleAt := goodIn_ca (goodIn_r _ [5, 6, 7, 8, 9, 10, 4, 11, 12, 13, 14, 15, 16, 17, 18, 19, 20, 21, 22, 23, 24, 25, 26, 27, 28, 29, 30, 31, 32, 33, 34, 35, 36, 75, 76, 77, 78, 79, 80, 81, 82] (by decide +kernel) (by decide +kernel)) (goodIn_sub (fun _ h => List.mem_cons_of_mem _ (List.mem_append_right _ h)) (by decide +kernel))
set_option maxRecDepth 20000 in
theorem gX2_decides_X2_ruleAt : GoodIn wsX2_decides (wsV RX2 70 RX2 yX2_ruleAt wsX2_ruleAt) := goodIn_app (goodIn_of _ (by decide +kernel)) ggX2_decides_X2_ruleAt
set_option maxRecDepth 20000 in
theorem ggX2_decides_X2_decidedPackets : GoodIn wsX2_decides wsX2_decidedPackets := goodIn_r _ [40, 41, 42, 43, 44, 45, 46, 47, 48, 4, 49, 50, 51, 52, 53, 6, 7, 14, 15, 16, 17, 18, 19, 20, 21, 22, 23, 24, 25, 26, 27, 28, 29, 30, 31, 32, 33, 34, 35, 36, 54, 55, 56, 57, 58, 59, 60, 61, 62, 63, 64, 65, 66, 67, 68, 69, 70, 71, 72, 73, 74, 83, 84, 85, 86, 87, 88, 89, 90, 75, 76, 77, 78, 79, 80, 81, 82] (by decide +kernel) (by decide +kernel)
set_option maxRecDepth 20000 in
theorem gX2_decides_X2_decidedPackets : GoodIn wsX2_decides (wsV RX2 123 RX2 yX2_decidedPackets wsX2_decidedPackets) := goodIn_app (goodIn_of _ (by decide +kernel)) ggX2_decides_X2_decidedPackets
theorem dX2_decides_0 : decode cX2_decides 0 = .ok (.aload_n 0, 1) := by decide +kernel
theorem dX2_decides_1 : decode cX2_decides 1 = .ok (.aload_n 0, 1) := by decide +kernel
theorem dX2_decides_2 : decode cX2_decides 2 = .ok (.iload_n 1, 1) := by decide +kernel
theorem dX2_decides_3 : decode cX2_decides 3 = .ok (.invokevirtual 70, 3) := by decide +kernel
theorem dX2_decides_6 : decode cX2_decides 6 = .ok (.iload_n 1, 1) := by decide +kernel
theorem dX2_decides_7 : decode cX2_decides 7 = .ok (.invokevirtual 123, 3) := by decide +kernel
theorem dX2_decides_10 : decode cX2_decides 10 = .ok (.ireturn, 1) := by decide +kernel
set_option maxRecDepth 20000 in
theorem ggX2_overlap_X2_ruleAt : GoodIn wsX2_overlap wsX2_ruleAt := goodIn_ca (goodIn_r _ [5, 6, 7, 8, 9, 10, 4, 11, 12, 13, 14, 15, 16, 17, 18, 19, 20, 21, 22, 23, 24, 25, 26, 27, 28, 29, 30, 31, 32, 33, 34, 35, 36, 66, 67, 68, 69, 70, 71, 72, 73] (by decide +kernel) (by decide +kernel)) (goodIn_sub (fun _ h => List.mem_cons_of_mem _ (List.mem_append_right _ h)) (by decide +kernel))
set_option maxRecDepth 20000 in
theorem gX2_overlap_X2_ruleAt : GoodIn wsX2_overlap (wsV RX2 70 RX2 yX2_ruleAt wsX2_ruleAt) := goodIn_app (goodIn_of _ (by decide +kernel)) ggX2_overlap_X2_ruleAt
set_option maxRecDepth 20000 in
theorem ggX2_overlap_X1_commonPackets : GoodIn wsX2_overlap wsX1_commonPackets := goodIn_r _ [41, 42, 43, 44, 45, 46, 47, 48, 49, 50, 51, 52, 53, 54, 55, 56, 57, 58, 59, 60, 61, 62, 63, 64, 65, 74, 75, 76, 77, 78, 79, 80, 81] (by decide +kernel) (by decide +kernel)
set_option maxRecDepth 20000 in
theorem gX2_overlap_X1_commonPackets : GoodIn wsX2_overlap (wsV RX2 127 RX1 yX1_commonPackets wsX1_commonPackets) := goodIn_app (goodIn_of _ (by decide +kernel)) ggX2_overlap_X1_commonPackets
theorem dX2_overlap_0 : decode cX2_overlap 0 = .ok (.aload_n 0, 1) := by decide +kernel
theorem dX2_overlap_1 : decode cX2_overlap 1 = .ok (.iload_n 1, 1) := by decide +kernel
theorem dX2_overlap_2 : decode cX2_overlap 2 = .ok (.invokevirtual 70, 3) := by decide +kernel
theorem dX2_overlap_5 : decode cX2_overlap 5 = .ok (.aload_n 0, 1) := by decide +kernel
theorem dX2_overlap_6 : decode cX2_overlap 6 = .ok (.iload_n 2, 1) := by decide +kernel
theorem dX2_overlap_7 : decode cX2_overlap 7 = .ok (.invokevirtual 70, 3) := by decide +kernel
theorem dX2_overlap_10 : decode cX2_overlap 10 = .ok (.invokevirtual 127, 3) := by decide +kernel
theorem dX2_overlap_13 : decode cX2_overlap 13 = .ok (.ireturn, 1) := by decide +kernel
set_option maxRecDepth 20000 in
theorem ggX2_isShadowed_X2_ruleAt : GoodIn wsX2_isShadowed wsX2_ruleAt := goodIn_ca (goodIn_r _ [5, 6, 7, 8, 9, 10, 4, 11, 12, 13, 14, 15, 16, 17, 18, 19, 20, 21, 22, 23, 24, 25, 26, 27, 28, 29, 30, 31, 32, 33, 34, 35, 36, 75, 76, 77, 78, 79, 80, 81, 82] (by decide +kernel) (by decide +kernel)) (goodIn_sub (fun _ h => List.mem_cons_of_mem _ (List.mem_append_right _ h)) (by decide +kernel))
set_option maxRecDepth 20000 in
theorem gX2_isShadowed_X2_ruleAt : GoodIn wsX2_isShadowed (wsV RX2 70 RX2 yX2_ruleAt wsX2_ruleAt) := goodIn_app (goodIn_of _ (by decide +kernel)) ggX2_isShadowed_X2_ruleAt
set_option maxRecDepth 20000 in
theorem ggX2_isShadowed_X2_decidedPackets : GoodIn wsX2_isShadowed wsX2_decidedPackets := goodIn_r _ [40, 41, 42, 43, 44, 45, 46, 47, 48, 4, 49, 50, 51, 52, 53, 6, 7, 14, 15, 16, 17, 18, 19, 20, 21, 22, 23, 24, 25, 26, 27, 28, 29, 30, 31, 32, 33, 34, 35, 36, 54, 55, 56, 57, 58, 59, 60, 61, 62, 63, 64, 65, 66, 67, 68, 69, 70, 71, 72, 73, 74, 83, 84, 85, 86, 87, 88, 89, 90, 75, 76, 77, 78, 79, 80, 81, 82] (by decide +kernel) (by decide +kernel)
set_option maxRecDepth 20000 in
theorem gX2_isShadowed_X2_decidedPackets : GoodIn wsX2_isShadowed (wsV RX2 123 RX2 yX2_decidedPackets wsX2_decidedPackets) := goodIn_app (goodIn_of _ (by decide +kernel)) ggX2_isShadowed_X2_decidedPackets
theorem dX2_isShadowed_0 : decode cX2_isShadowed 0 = .ok (.aload_n 0, 1) := by decide +kernel
theorem dX2_isShadowed_1 : decode cX2_isShadowed 1 = .ok (.aload_n 0, 1) := by decide +kernel
theorem dX2_isShadowed_2 : decode cX2_isShadowed 2 = .ok (.iload_n 1, 1) := by decide +kernel
theorem dX2_isShadowed_3 : decode cX2_isShadowed 3 = .ok (.invokevirtual 70, 3) := by decide +kernel
theorem dX2_isShadowed_6 : decode cX2_isShadowed 6 = .ok (.iload_n 1, 1) := by decide +kernel
theorem dX2_isShadowed_7 : decode cX2_isShadowed 7 = .ok (.invokevirtual 123, 3) := by decide +kernel
theorem dX2_isShadowed_10 : decode cX2_isShadowed 10 = .ok (.ifCond .ne 7, 3) := by decide +kernel
theorem dX2_isShadowed_13 : decode cX2_isShadowed 13 = .ok (.iconst 1, 1) := by decide +kernel
theorem dX2_isShadowed_14 : decode cX2_isShadowed 14 = .ok (.goto 4, 3) := by decide +kernel
theorem dX2_isShadowed_17 : decode cX2_isShadowed 17 = .ok (.iconst 0, 1) := by decide +kernel
theorem dX2_isShadowed_18 : decode cX2_isShadowed 18 = .ok (.ireturn, 1) := by decide +kernel
set_option maxRecDepth 20000 in
theorem ggX2_shadowedBy_X2_ruleAt : GoodIn wsX2_shadowedBy wsX2_ruleAt := goodIn_ca (goodIn_r _ [9, 3, 4, 10, 11, 12, 8, 13, 14, 15, 16, 17, 18, 19, 20, 21, 22, 23, 24, 25, 26, 27, 28, 29, 30, 31, 32, 33, 34, 35, 36, 37, 38, 54, 55, 56, 57, 58, 59, 60, 61] (by decide +kernel) (by decide +kernel)) (goodIn_sub (fun _ h => List.mem_cons_of_mem _ (List.mem_append_right _ h)) (by decide +kernel))
set_option maxRecDepth 20000 in
theorem gX2_shadowedBy_X2_ruleAt : GoodIn wsX2_shadowedBy (wsV RX2 70 RX2 yX2_ruleAt wsX2_ruleAt) := goodIn_app (goodIn_of _ (by decide +kernel)) ggX2_shadowedBy_X2_ruleAt
set_option maxRecDepth 20000 in
theorem ggX2_shadowedBy_Jx4a65c_size_8abf5 : GoodIn wsX2_shadowedBy wsJx4a65c_size_8abf5 := goodIn_r _ [20, 21, 59, 60, 61] (by decide +kernel) (by decide +kernel)
set_option maxRecDepth 20000 in
theorem gX2_shadowedBy_Jx4a65c_size_8abf5 : GoodIn wsX2_shadowedBy (wsV RX2 33 RJx4a65c yJx4a65c_size_8abf5 wsJx4a65c_size_8abf5) := goodIn_app (goodIn_of _ (by decide +kernel)) ggX2_shadowedBy_Jx4a65c_size_8abf5
set_option maxRecDepth 20000 in
theorem ggX2_shadowedBy_Jx4a65c_get_915e3 : GoodIn wsX2_shadowedBy wsJx4a65c_get_915e3 := goodIn_r _ [25, 21, 26, 27, 28, 29, 30, 31, 32, 33, 34, 35, 36, 19, 37, 38, 59, 60, 61] (by decide +kernel) (by decide +kernel)
set_option maxRecDepth 20000 in
theorem gX2_shadowedBy_Jx4a65c_get_915e3 : GoodIn wsX2_shadowedBy (wsV RX2 112 RJx4a65c yJx4a65c_get_915e3 wsJx4a65c_get_915e3) := goodIn_app (goodIn_of _ (by decide +kernel)) ggX2_shadowedBy_Jx4a65c_get_915e3
set_option maxRecDepth 20000 in
theorem ggX2_shadowedBy_X1_covers : GoodIn wsX2_shadowedBy wsX1_covers := goodIn_r _ [43, 44, 45, 46, 47, 48, 49, 50, 51, 52, 53, 62, 63, 64, 65, 66, 67, 68, 69] (by decide +kernel) (by decide +kernel)
set_option maxRecDepth 20000 in
theorem gX2_shadowedBy_X1_covers : GoodIn wsX2_shadowedBy (wsV RX2 131 RX1 yX1_covers wsX1_covers) := goodIn_app (goodIn_of _ (by decide +kernel)) ggX2_shadowedBy_X1_covers
theorem dX2_shadowedBy_0 : decode cX2_shadowedBy 0 = .ok (.aload_n 0, 1) := by decide +kernel
theorem dX2_shadowedBy_1 : decode cX2_shadowedBy 1 = .ok (.iload_n 1, 1) := by decide +kernel
theorem dX2_shadowedBy_2 : decode cX2_shadowedBy 2 = .ok (.invokevirtual 70, 3) := by decide +kernel
theorem dX2_shadowedBy_5 : decode cX2_shadowedBy 5 = .ok (.astore_n 2, 1) := by decide +kernel
theorem dX2_shadowedBy_6 : decode cX2_shadowedBy 6 = .ok (.iconst 0, 1) := by decide +kernel
theorem dX2_shadowedBy_7 : decode cX2_shadowedBy 7 = .ok (.istore_n 3, 1) := by decide +kernel
theorem dX2_shadowedBy_8 : decode cX2_shadowedBy 8 = .ok (.iload_n 3, 1) := by decide +kernel
theorem dX2_shadowedBy_9 : decode cX2_shadowedBy 9 = .ok (.iload_n 1, 1) := by decide +kernel
theorem dX2_shadowedBy_10 : decode cX2_shadowedBy 10 = .ok (.if_icmp .ge 40, 3) := by decide +kernel
theorem dX2_shadowedBy_13 : decode cX2_shadowedBy 13 = .ok (.iload_n 3, 1) := by decide +kernel
theorem dX2_shadowedBy_14 : decode cX2_shadowedBy 14 = .ok (.aload_n 0, 1) := by decide +kernel
theorem dX2_shadowedBy_15 : decode cX2_shadowedBy 15 = .ok (.getfield 10, 3) := by decide +kernel
theorem dX2_shadowedBy_18 : decode cX2_shadowedBy 18 = .ok (.invokevirtual 33, 3) := by decide +kernel
theorem dX2_shadowedBy_21 : decode cX2_shadowedBy 21 = .ok (.if_icmp .ge 29, 3) := by decide +kernel
theorem dX2_shadowedBy_24 : decode cX2_shadowedBy 24 = .ok (.aload_n 0, 1) := by decide +kernel
theorem dX2_shadowedBy_25 : decode cX2_shadowedBy 25 = .ok (.getfield 10, 3) := by decide +kernel
theorem dX2_shadowedBy_28 : decode cX2_shadowedBy 28 = .ok (.iload_n 3, 1) := by decide +kernel
theorem dX2_shadowedBy_29 : decode cX2_shadowedBy 29 = .ok (.invokevirtual 112, 3) := by decide +kernel
theorem dX2_shadowedBy_32 : decode cX2_shadowedBy 32 = .ok (.checkcast 47, 3) := by decide +kernel
theorem dX2_shadowedBy_35 : decode cX2_shadowedBy 35 = .ok (.aload_n 2, 1) := by decide +kernel
theorem dX2_shadowedBy_36 : decode cX2_shadowedBy 36 = .ok (.invokevirtual 131, 3) := by decide +kernel
theorem dX2_shadowedBy_39 : decode cX2_shadowedBy 39 = .ok (.ifCond .eq 5, 3) := by decide +kernel
theorem dX2_shadowedBy_42 : decode cX2_shadowedBy 42 = .ok (.iload_n 3, 1) := by decide +kernel
theorem dX2_shadowedBy_43 : decode cX2_shadowedBy 43 = .ok (.ireturn, 1) := by decide +kernel
theorem dX2_shadowedBy_44 : decode cX2_shadowedBy 44 = .ok (.iinc 3 1, 3) := by decide +kernel
theorem dX2_shadowedBy_47 : decode cX2_shadowedBy 47 = .ok (.goto (-39), 3) := by decide +kernel
