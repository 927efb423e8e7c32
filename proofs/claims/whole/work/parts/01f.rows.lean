theorem dX3_move_1 : decode cX3_move 1 = .ok (.aload_n 0, 1) := by decide +kernel
theorem dX3_move_2 : decode cX3_move 2 = .ok (.iload_n 1, 1) := by decide +kernel
theorem dX3_move_3 : decode cX3_move 3 = .ok (.invokevirtual 63, 3) := by decide +kernel
theorem dX3_move_6 : decode cX3_move 6 = .ok (.ifCond .eq 15, 3) := by decide +kernel
theorem dX3_move_9 : decode cX3_move 9 = .ok (.aload_n 0, 1) := by decide +kernel
theorem dX3_move_10 : decode cX3_move 10 = .ok (.iload_n 2, 1) := by decide +kernel
theorem dX3_move_11 : decode cX3_move 11 = .ok (.invokevirtual 63, 3) := by decide +kernel
theorem dX3_move_14 : decode cX3_move 14 = .ok (.ifCond .eq 7, 3) := by decide +kernel
theorem dX3_move_17 : decode cX3_move 17 = .ok (.iconst 0, 1) := by decide +kernel
theorem dX3_move_18 : decode cX3_move 18 = .ok (.goto 4, 3) := by decide +kernel
theorem dX3_move_21 : decode cX3_move 21 = .ok (.iconst 1, 1) := by decide +kernel
theorem dX3_move_22 : decode cX3_move 22 = .ok (.invokevirtual 55, 3) := by decide +kernel
theorem dX3_move_25 : decode cX3_move 25 = .ok (.ifCond .ne 5, 3) := by decide +kernel
theorem dX3_move_28 : decode cX3_move 28 = .ok (.iconst 0, 1) := by decide +kernel
theorem dX3_move_29 : decode cX3_move 29 = .ok (.ireturn, 1) := by decide +kernel
theorem dX3_move_30 : decode cX3_move 30 = .ok (.aload_n 0, 1) := by decide +kernel
theorem dX3_move_31 : decode cX3_move 31 = .ok (.invokevirtual 66, 3) := by decide +kernel
theorem dX3_move_34 : decode cX3_move 34 = .ok (.aload_n 0, 1) := by decide +kernel
theorem dX3_move_35 : decode cX3_move 35 = .ok (.iload_n 1, 1) := by decide +kernel
theorem dX3_move_36 : decode cX3_move 36 = .ok (.invokevirtual 69, 3) := by decide +kernel
theorem dX3_move_39 : decode cX3_move 39 = .ok (.aload_n 0, 1) := by decide +kernel
theorem dX3_move_40 : decode cX3_move 40 = .ok (.iload_n 2, 1) := by decide +kernel
theorem dX3_move_41 : decode cX3_move 41 = .ok (.invokevirtual 59, 3) := by decide +kernel
theorem dX3_move_44 : decode cX3_move 44 = .ok (.aload_n 0, 1) := by decide +kernel
theorem dX3_move_45 : decode cX3_move 45 = .ok (.invokevirtual 72, 3) := by decide +kernel
theorem dX3_move_48 : decode cX3_move 48 = .ok (.ireturn, 1) := by decide +kernel
theorem dX3_rules_0 : decode cX3_rules 0 = .ok (.aload_n 0, 1) := by decide +kernel
theorem dX3_rules_1 : decode cX3_rules 1 = .ok (.iconst 0, 1) := by decide +kernel
theorem dX3_rules_2 : decode cX3_rules 2 = .ok (.putfield 25, 3) := by decide +kernel
theorem dX3_rules_5 : decode cX3_rules 5 = .ok (.aload_n 0, 1) := by decide +kernel
theorem dX3_rules_6 : decode cX3_rules 6 = .ok (.getfield 29, 3) := by decide +kernel
theorem dX3_rules_9 : decode cX3_rules 9 = .ok (.ireturn, 1) := by decide +kernel
set_option maxRecDepth 20000 in
theorem ggX3_sources_X3_isPlace : GoodIn wsX3_sources wsX3_isPlace := goodIn_r _ [5, 6, 7, 8, 4, 9, 20, 21, 22, 23, 24, 25, 26, 27, 28, 29] (by decide +kernel) (by decide +kernel)
set_option maxRecDepth 20000 in
theorem gX3_sources_X3_isPlace : GoodIn wsX3_sources (wsV RX3 63 RX3 yX3_isPlace wsX3_isPlace) := goodIn_app (goodIn_of _ (by decide +kernel)) ggX3_sources_X3_isPlace
set_option maxRecDepth 20000 in
theorem ggX3_sources_X3_holds : GoodIn wsX3_sources wsX3_holds := goodIn_r _ [13, 14, 20, 21, 22, 23, 24, 25, 26, 27, 28, 29] (by decide +kernel) (by decide +kernel)
set_option maxRecDepth 20000 in
theorem gX3_sources_X3_holds : GoodIn wsX3_sources (wsV RX3 55 RX3 yX3_holds wsX3_holds) := goodIn_app (goodIn_of _ (by decide +kernel)) ggX3_sources_X3_holds
set_option maxRecDepth 20000 in
theorem ggX3_sources_X3_of : GoodIn wsX3_sources wsX3_of := goodIn_r _ [18, 19, 20, 21, 22, 23, 24, 25, 26, 27, 28, 29] (by decide +kernel) (by decide +kernel)
set_option maxRecDepth 20000 in
theorem gX3_sources_X3_of : GoodIn wsX3_sources (wsV RX3 36 RX3 yX3_of wsX3_of) := goodIn_app (goodIn_of _ (by decide +kernel)) ggX3_sources_X3_of
theorem dX3_sources_0 : decode cX3_sources 0 = .ok (.aload_n 0, 1) := by decide +kernel
theorem dX3_sources_1 : decode cX3_sources 1 = .ok (.aload_n 0, 1) := by decide +kernel
theorem dX3_sources_2 : decode cX3_sources 2 = .ok (.iload_n 1, 1) := by decide +kernel
theorem dX3_sources_3 : decode cX3_sources 3 = .ok (.invokevirtual 63, 3) := by decide +kernel
theorem dX3_sources_6 : decode cX3_sources 6 = .ok (.ifCond .eq 7, 3) := by decide +kernel
theorem dX3_sources_9 : decode cX3_sources 9 = .ok (.iconst 0, 1) := by decide +kernel
theorem dX3_sources_10 : decode cX3_sources 10 = .ok (.goto 4, 3) := by decide +kernel
theorem dX3_sources_13 : decode cX3_sources 13 = .ok (.iconst 1, 1) := by decide +kernel
theorem dX3_sources_14 : decode cX3_sources 14 = .ok (.invokevirtual 55, 3) := by decide +kernel
theorem dX3_sources_17 : decode cX3_sources 17 = .ok (.ifCond .eq 22, 3) := by decide +kernel
theorem dX3_sources_20 : decode cX3_sources 20 = .ok (.bipush 100, 2) := by decide +kernel
theorem dX3_sources_22 : decode cX3_sources 22 = .ok (.aload_n 0, 1) := by decide +kernel
theorem dX3_sources_23 : decode cX3_sources 23 = .ok (.iload_n 1, 1) := by decide +kernel
theorem dX3_sources_24 : decode cX3_sources 24 = .ok (.iconst 0, 1) := by decide +kernel
theorem dX3_sources_25 : decode cX3_sources 25 = .ok (.invokevirtual 36, 3) := by decide +kernel
theorem dX3_sources_28 : decode cX3_sources 28 = .ok (.imul, 1) := by decide +kernel
theorem dX3_sources_29 : decode cX3_sources 29 = .ok (.aload_n 0, 1) := by decide +kernel
theorem dX3_sources_30 : decode cX3_sources 30 = .ok (.iload_n 1, 1) := by decide +kernel
theorem dX3_sources_31 : decode cX3_sources 31 = .ok (.iconst 1, 1) := by decide +kernel
theorem dX3_sources_32 : decode cX3_sources 32 = .ok (.invokevirtual 36, 3) := by decide +kernel
theorem dX3_sources_35 : decode cX3_sources 35 = .ok (.iadd, 1) := by decide +kernel
theorem dX3_sources_36 : decode cX3_sources 36 = .ok (.goto 4, 3) := by decide +kernel
theorem dX3_sources_39 : decode cX3_sources 39 = .ok (.iconst 0, 1) := by decide +kernel
theorem dX3_sources_40 : decode cX3_sources 40 = .ok (.ireturn, 1) := by decide +kernel
set_option maxRecDepth 20000 in
theorem ggX3_destinations_X3_isPlace : GoodIn wsX3_destinations wsX3_isPlace := goodIn_r _ [5, 6, 7, 8, 4, 9, 20, 21, 22, 23, 24, 25, 26, 27, 28, 29] (by decide +kernel) (by decide +kernel)
set_option maxRecDepth 20000 in
theorem gX3_destinations_X3_isPlace : GoodIn wsX3_destinations (wsV RX3 63 RX3 yX3_isPlace wsX3_isPlace) := goodIn_app (goodIn_of _ (by decide +kernel)) ggX3_destinations_X3_isPlace
set_option maxRecDepth 20000 in
theorem ggX3_destinations_X3_holds : GoodIn wsX3_destinations wsX3_holds := goodIn_r _ [13, 14, 20, 21, 22, 23, 24, 25, 26, 27, 28, 29] (by decide +kernel) (by decide +kernel)
set_option maxRecDepth 20000 in
theorem gX3_destinations_X3_holds : GoodIn wsX3_destinations (wsV RX3 55 RX3 yX3_holds wsX3_holds) := goodIn_app (goodIn_of _ (by decide +kernel)) ggX3_destinations_X3_holds
set_option maxRecDepth 20000 in
theorem ggX3_destinations_X3_of : GoodIn wsX3_destinations wsX3_of := goodIn_r _ [18, 19, 20, 21, 22, 23, 24, 25, 26, 27, 28, 29] (by decide +kernel) (by decide +kernel)
set_option maxRecDepth 20000 in
theorem gX3_destinations_X3_of : GoodIn wsX3_destinations (wsV RX3 36 RX3 yX3_of wsX3_of) := goodIn_app (goodIn_of _ (by decide +kernel)) ggX3_destinations_X3_of
theorem dX3_destinations_0 : decode cX3_destinations 0 = .ok (.aload_n 0, 1) := by decide +kernel
theorem dX3_destinations_1 : decode cX3_destinations 1 = .ok (.aload_n 0, 1) := by decide +kernel
theorem dX3_destinations_2 : decode cX3_destinations 2 = .ok (.iload_n 1, 1) := by decide +kernel
theorem dX3_destinations_3 : decode cX3_destinations 3 = .ok (.invokevirtual 63, 3) := by decide +kernel
theorem dX3_destinations_6 : decode cX3_destinations 6 = .ok (.ifCond .eq 7, 3) := by decide +kernel
theorem dX3_destinations_9 : decode cX3_destinations 9 = .ok (.iconst 0, 1) := by decide +kernel
theorem dX3_destinations_10 : decode cX3_destinations 10 = .ok (.goto 4, 3) := by decide +kernel
theorem dX3_destinations_13 : decode cX3_destinations 13 = .ok (.iconst 1, 1) := by decide +kernel
theorem dX3_destinations_14 : decode cX3_destinations 14 = .ok (.invokevirtual 55, 3) := by decide +kernel
theorem dX3_destinations_17 : decode cX3_destinations 17 = .ok (.ifCond .eq 22, 3) := by decide +kernel
theorem dX3_destinations_20 : decode cX3_destinations 20 = .ok (.bipush 100, 2) := by decide +kernel
theorem dX3_destinations_22 : decode cX3_destinations 22 = .ok (.aload_n 0, 1) := by decide +kernel
theorem dX3_destinations_23 : decode cX3_destinations 23 = .ok (.iload_n 1, 1) := by decide +kernel
theorem dX3_destinations_24 : decode cX3_destinations 24 = .ok (.iconst 2, 1) := by decide +kernel
theorem dX3_destinations_25 : decode cX3_destinations 25 = .ok (.invokevirtual 36, 3) := by decide +kernel
theorem dX3_destinations_28 : decode cX3_destinations 28 = .ok (.imul, 1) := by decide +kernel
theorem dX3_destinations_29 : decode cX3_destinations 29 = .ok (.aload_n 0, 1) := by decide +kernel
theorem dX3_destinations_30 : decode cX3_destinations 30 = .ok (.iload_n 1, 1) := by decide +kernel
theorem dX3_destinations_31 : decode cX3_destinations 31 = .ok (.iconst 3, 1) := by decide +kernel
theorem dX3_destinations_32 : decode cX3_destinations 32 = .ok (.invokevirtual 36, 3) := by decide +kernel
theorem dX3_destinations_35 : decode cX3_destinations 35 = .ok (.iadd, 1) := by decide +kernel
theorem dX3_destinations_36 : decode cX3_destinations 36 = .ok (.goto 4, 3) := by decide +kernel
theorem dX3_destinations_39 : decode cX3_destinations 39 = .ok (.iconst 0, 1) := by decide +kernel
theorem dX3_destinations_40 : decode cX3_destinations 40 = .ok (.ireturn, 1) := by decide +kernel
set_option maxRecDepth 20000 in
theorem ggX3_protocols_X3_isPlace : GoodIn wsX3_protocols wsX3_isPlace := goodIn_r _ [5, 6, 7, 8, 4, 9, 20, 21, 22, 23, 24, 25, 26, 27, 28, 29] (by decide +kernel) (by decide +kernel)
set_option maxRecDepth 20000 in
theorem gX3_protocols_X3_isPlace : GoodIn wsX3_protocols (wsV RX3 63 RX3 yX3_isPlace wsX3_isPlace) := goodIn_app (goodIn_of _ (by decide +kernel)) ggX3_protocols_X3_isPlace
set_option maxRecDepth 20000 in
theorem ggX3_protocols_X3_holds : GoodIn wsX3_protocols wsX3_holds := goodIn_r _ [13, 14, 20, 21, 22, 23, 24, 25, 26, 27, 28, 29] (by decide +kernel) (by decide +kernel)
set_option maxRecDepth 20000 in
theorem gX3_protocols_X3_holds : GoodIn wsX3_protocols (wsV RX3 55 RX3 yX3_holds wsX3_holds) := goodIn_app (goodIn_of _ (by decide +kernel)) ggX3_protocols_X3_holds
set_option maxRecDepth 20000 in
theorem ggX3_protocols_X3_of : GoodIn wsX3_protocols wsX3_of := goodIn_r _ [18, 19, 20, 21, 22, 23, 24, 25, 26, 27, 28, 29] (by decide +kernel) (by decide +kernel)
set_option maxRecDepth 20000 in
theorem gX3_protocols_X3_of : GoodIn wsX3_protocols (wsV RX3 36 RX3 yX3_of wsX3_of) := goodIn_app (goodIn_of _ (by decide +kernel)) ggX3_protocols_X3_of
theorem dX3_protocols_0 : decode cX3_protocols 0 = .ok (.aload_n 0, 1) := by decide +kernel
theorem dX3_protocols_1 : decode cX3_protocols 1 = .ok (.aload_n 0, 1) := by decide +kernel
theorem dX3_protocols_2 : decode cX3_protocols 2 = .ok (.iload_n 1, 1) := by decide +kernel
theorem dX3_protocols_3 : decode cX3_protocols 3 = .ok (.invokevirtual 63, 3) := by decide +kernel
theorem dX3_protocols_6 : decode cX3_protocols 6 = .ok (.ifCond .eq 7, 3) := by decide +kernel
theorem dX3_protocols_9 : decode cX3_protocols 9 = .ok (.iconst 0, 1) := by decide +kernel
theorem dX3_protocols_10 : decode cX3_protocols 10 = .ok (.goto 4, 3) := by decide +kernel
theorem dX3_protocols_13 : decode cX3_protocols 13 = .ok (.iconst 1, 1) := by decide +kernel
theorem dX3_protocols_14 : decode cX3_protocols 14 = .ok (.invokevirtual 55, 3) := by decide +kernel
theorem dX3_protocols_17 : decode cX3_protocols 17 = .ok (.ifCond .eq 12, 3) := by decide +kernel
theorem dX3_protocols_20 : decode cX3_protocols 20 = .ok (.aload_n 0, 1) := by decide +kernel
theorem dX3_protocols_21 : decode cX3_protocols 21 = .ok (.iload_n 1, 1) := by decide +kernel
theorem dX3_protocols_22 : decode cX3_protocols 22 = .ok (.iconst 4, 1) := by decide +kernel
theorem dX3_protocols_23 : decode cX3_protocols 23 = .ok (.invokevirtual 36, 3) := by decide +kernel
theorem dX3_protocols_26 : decode cX3_protocols 26 = .ok (.goto 4, 3) := by decide +kernel
theorem dX3_protocols_29 : decode cX3_protocols 29 = .ok (.iconst 0, 1) := by decide +kernel
theorem dX3_protocols_30 : decode cX3_protocols 30 = .ok (.ireturn, 1) := by decide +kernel
set_option maxRecDepth 20000 in
theorem ggX3_permits_X3_isPlace : GoodIn wsX3_permits wsX3_isPlace := goodIn_r _ [5, 6, 7, 8, 4, 9, 20, 21, 22, 23, 24, 25, 26, 27, 28, 29] (by decide +kernel) (by decide +kernel)
set_option maxRecDepth 20000 in
theorem gX3_permits_X3_isPlace : GoodIn wsX3_permits (wsV RX3 63 RX3 yX3_isPlace wsX3_isPlace) := goodIn_app (goodIn_of _ (by decide +kernel)) ggX3_permits_X3_isPlace
set_option maxRecDepth 20000 in
theorem ggX3_permits_X3_holds : GoodIn wsX3_permits wsX3_holds := goodIn_r _ [13, 14, 20, 21, 22, 23, 24, 25, 26, 27, 28, 29] (by decide +kernel) (by decide +kernel)
set_option maxRecDepth 20000 in
theorem gX3_permits_X3_holds : GoodIn wsX3_permits (wsV RX3 55 RX3 yX3_holds wsX3_holds) := goodIn_app (goodIn_of _ (by decide +kernel)) ggX3_permits_X3_holds
set_option maxRecDepth 20000 in
theorem ggX3_permits_X3_of : GoodIn wsX3_permits wsX3_of := goodIn_r _ [18, 19, 20, 21, 22, 23, 24, 25, 26, 27, 28, 29] (by decide +kernel) (by decide +kernel)
set_option maxRecDepth 20000 in
theorem gX3_permits_X3_of : GoodIn wsX3_permits (wsV RX3 36 RX3 yX3_of wsX3_of) := goodIn_app (goodIn_of _ (by decide +kernel)) ggX3_permits_X3_of
theorem dX3_permits_0 : decode cX3_permits 0 = .ok (.aload_n 0, 1) := by decide +kernel
theorem dX3_permits_1 : decode cX3_permits 1 = .ok (.aload_n 0, 1) := by decide +kernel
theorem dX3_permits_2 : decode cX3_permits 2 = .ok (.iload_n 1, 1) := by decide +kernel
theorem dX3_permits_3 : decode cX3_permits 3 = .ok (.invokevirtual 63, 3) := by decide +kernel
theorem dX3_permits_6 : decode cX3_permits 6 = .ok (.ifCond .eq 7, 3) := by decide +kernel
theorem dX3_permits_9 : decode cX3_permits 9 = .ok (.iconst 0, 1) := by decide +kernel
theorem dX3_permits_10 : decode cX3_permits 10 = .ok (.goto 4, 3) := by decide +kernel
theorem dX3_permits_13 : decode cX3_permits 13 = .ok (.iconst 1, 1) := by decide +kernel
theorem dX3_permits_14 : decode cX3_permits 14 = .ok (.invokevirtual 55, 3) := by decide +kernel
theorem dX3_permits_17 : decode cX3_permits 17 = .ok (.ifCond .eq 17, 3) := by decide +kernel
theorem dX3_permits_20 : decode cX3_permits 20 = .ok (.aload_n 0, 1) := by decide +kernel
theorem dX3_permits_21 : decode cX3_permits 21 = .ok (.iload_n 1, 1) := by decide +kernel
theorem dX3_permits_22 : decode cX3_permits 22 = .ok (.iconst 5, 1) := by decide +kernel
theorem dX3_permits_23 : decode cX3_permits 23 = .ok (.invokevirtual 36, 3) := by decide +kernel
theorem dX3_permits_26 : decode cX3_permits 26 = .ok (.iconst 1, 1) := by decide +kernel
theorem dX3_permits_27 : decode cX3_permits 27 = .ok (.if_icmp .ne 7, 3) := by decide +kernel
theorem dX3_permits_30 : decode cX3_permits 30 = .ok (.iconst 1, 1) := by decide +kernel
theorem dX3_permits_31 : decode cX3_permits 31 = .ok (.goto 4, 3) := by decide +kernel
theorem dX3_permits_34 : decode cX3_permits 34 = .ok (.iconst 0, 1) := by decide +kernel
theorem dX3_permits_35 : decode cX3_permits 35 = .ok (.ireturn, 1) := by decide +kernel
set_option maxRecDepth 20000 in
theorem ggX3_isPacket_X3_in : GoodIn wsX3_isPacket wsX3_in := goodIn_r _ [4] (by decide +kernel) (by decide +kernel)
set_option maxRecDepth 20000 in
theorem gX3_isPacket_X3_in : GoodIn wsX3_isPacket (va_wsS RX3 32 yX3_in wsX3_in) := goodIn_app (goodIn_of _ (by decide +kernel)) ggX3_isPacket_X3_in
theorem dX3_isPacket_0 : decode cX3_isPacket 0 = .ok (.iload_n 0, 1) := by decide +kernel
theorem dX3_isPacket_1 : decode cX3_isPacket 1 = .ok (.iconst 0, 1) := by decide +kernel
theorem dX3_isPacket_2 : decode cX3_isPacket 2 = .ok (.bipush 31, 2) := by decide +kernel
theorem dX3_isPacket_4 : decode cX3_isPacket 4 = .ok (.invokestatic 32, 3) := by decide +kernel
theorem dX3_isPacket_7 : decode cX3_isPacket 7 = .ok (.ifCond .eq 26, 3) := by decide +kernel
theorem dX3_isPacket_10 : decode cX3_isPacket 10 = .ok (.iload_n 1, 1) := by decide +kernel
theorem dX3_isPacket_11 : decode cX3_isPacket 11 = .ok (.iconst 0, 1) := by decide +kernel
theorem dX3_isPacket_12 : decode cX3_isPacket 12 = .ok (.bipush 31, 2) := by decide +kernel
theorem dX3_isPacket_14 : decode cX3_isPacket 14 = .ok (.invokestatic 32, 3) := by decide +kernel
theorem dX3_isPacket_17 : decode cX3_isPacket 17 = .ok (.ifCond .eq 16, 3) := by decide +kernel
theorem dX3_isPacket_20 : decode cX3_isPacket 20 = .ok (.iload_n 2, 1) := by decide +kernel
theorem dX3_isPacket_21 : decode cX3_isPacket 21 = .ok (.iconst 0, 1) := by decide +kernel
theorem dX3_isPacket_22 : decode cX3_isPacket 22 = .ok (.iconst 3, 1) := by decide +kernel
theorem dX3_isPacket_23 : decode cX3_isPacket 23 = .ok (.invokestatic 32, 3) := by decide +kernel
theorem dX3_isPacket_26 : decode cX3_isPacket 26 = .ok (.ifCond .eq 7, 3) := by decide +kernel
theorem dX3_isPacket_29 : decode cX3_isPacket 29 = .ok (.iconst 1, 1) := by decide +kernel
theorem dX3_isPacket_30 : decode cX3_isPacket 30 = .ok (.goto 4, 3) := by decide +kernel
theorem dX3_isPacket_33 : decode cX3_isPacket 33 = .ok (.iconst 0, 1) := by decide +kernel
theorem dX3_isPacket_34 : decode cX3_isPacket 34 = .ok (.ireturn, 1) := by decide +kernel
set_option maxRecDepth 20000 in
theorem ggX3_first_X3_matches : GoodIn wsX3_first wsX3_matches := goodIn_r _ [6, 7, 8, 9, 5, 10, 11, 12, 13, 14, 15, 16, 17, 18, 19, 20, 21, 22, 23, 24] (by decide +kernel) (by decide +kernel)
set_option maxRecDepth 20000 in
theorem gX3_first_X3_matches : GoodIn wsX3_first (wsV RX3 40 RX3 yX3_matches wsX3_matches) := goodIn_app (goodIn_of _ (by decide +kernel)) ggX3_first_X3_matches
theorem dX3_first_0 : decode cX3_first 0 = .ok (.iconst 0, 1) := by decide +kernel
theorem dX3_first_1 : decode cX3_first 1 = .ok (.istore 4, 2) := by decide +kernel
theorem dX3_first_3 : decode cX3_first 3 = .ok (.iload 4, 2) := by decide +kernel
theorem dX3_first_5 : decode cX3_first 5 = .ok (.aload_n 0, 1) := by decide +kernel
theorem dX3_first_6 : decode cX3_first 6 = .ok (.getfield 29, 3) := by decide +kernel
theorem dX3_first_9 : decode cX3_first 9 = .ok (.if_icmp .ge 24, 3) := by decide +kernel
theorem dX3_first_12 : decode cX3_first 12 = .ok (.aload_n 0, 1) := by decide +kernel
theorem dX3_first_13 : decode cX3_first 13 = .ok (.iload 4, 2) := by decide +kernel
theorem dX3_first_15 : decode cX3_first 15 = .ok (.iload_n 1, 1) := by decide +kernel
theorem dX3_first_16 : decode cX3_first 16 = .ok (.iload_n 3, 1) := by decide +kernel
theorem dX3_first_17 : decode cX3_first 17 = .ok (.invokevirtual 40, 3) := by decide +kernel
theorem dX3_first_20 : decode cX3_first 20 = .ok (.iload_n 2, 1) := by decide +kernel
theorem dX3_first_21 : decode cX3_first 21 = .ok (.ishr, 1) := by decide +kernel
theorem dX3_first_22 : decode cX3_first 22 = .ok (.iconst 1, 1) := by decide +kernel
theorem dX3_first_23 : decode cX3_first 23 = .ok (.iand, 1) := by decide +kernel
theorem dX3_first_24 : decode cX3_first 24 = .ok (.ifCond .ne 9, 3) := by decide +kernel
theorem dX3_first_27 : decode cX3_first 27 = .ok (.iinc 4 1, 3) := by decide +kernel
theorem dX3_first_30 : decode cX3_first 30 = .ok (.goto (-27), 3) := by decide +kernel
theorem dX3_first_33 : decode cX3_first 33 = .ok (.iload 4, 2) := by decide +kernel
theorem dX3_first_35 : decode cX3_first 35 = .ok (.ireturn, 1) := by decide +kernel
set_option maxRecDepth 20000 in
theorem ggX3_judge_X3_isPacket : GoodIn wsX3_judge wsX3_isPacket := goodIn_r _ [9, 10, 11, 8, 12] (by decide +kernel) (by decide +kernel)
set_option maxRecDepth 20000 in
theorem gX3_judge_X3_isPacket : GoodIn wsX3_judge (va_wsS RX3 76 yX3_isPacket wsX3_isPacket) := goodIn_app (goodIn_of _ (by decide +kernel)) ggX3_judge_X3_isPacket
set_option maxRecDepth 20000 in
theorem ggX3_judge_X3_holds : GoodIn wsX3_judge wsX3_holds := goodIn_r _ [16, 17, 30, 31, 32, 33, 34, 35, 36, 37, 38, 39] (by decide +kernel) (by decide +kernel)
set_option maxRecDepth 20000 in
theorem gX3_judge_X3_holds : GoodIn wsX3_judge (wsV RX3 55 RX3 yX3_holds wsX3_holds) := goodIn_app (goodIn_of _ (by decide +kernel)) ggX3_judge_X3_holds
set_option maxRecDepth 20000 in
theorem ggX3_judge_X3_first : GoodIn wsX3_judge wsX3_first := goodIn_r _ [21, 2, 22, 23, 24, 8, 25, 26, 27, 28, 29, 5, 10, 11, 12, 30, 31, 32, 33, 34, 35, 36, 37, 38, 39] (by decide +kernel) (by decide +kernel)
set_option maxRecDepth 20000 in
theorem gX3_judge_X3_first : GoodIn wsX3_judge (wsV RX3 79 RX3 yX3_first wsX3_first) := goodIn_app (goodIn_of _ (by decide +kernel)) ggX3_judge_X3_first
set_option maxRecDepth 20000 in
theorem ggX3_judge_X3_of : GoodIn wsX3_judge wsX3_of := goodIn_r _ [29, 5, 30, 31, 32, 33, 34, 35, 36, 37, 38, 39] (by decide +kernel) (by decide +kernel)
set_option maxRecDepth 20000 in
theorem gX3_judge_X3_of : GoodIn wsX3_judge (wsV RX3 36 RX3 yX3_of wsX3_of) := goodIn_app (goodIn_of _ (by decide +kernel)) ggX3_judge_X3_of
theorem dX3_judge_0 : decode cX3_judge 0 = .ok (.aload_n 0, 1) := by decide +kernel
theorem dX3_judge_1 : decode cX3_judge 1 = .ok (.iload_n 1, 1) := by decide +kernel
theorem dX3_judge_2 : decode cX3_judge 2 = .ok (.iload_n 2, 1) := by decide +kernel
theorem dX3_judge_3 : decode cX3_judge 3 = .ok (.iload_n 3, 1) := by decide +kernel
theorem dX3_judge_4 : decode cX3_judge 4 = .ok (.invokestatic 76, 3) := by decide +kernel
theorem dX3_judge_7 : decode cX3_judge 7 = .ok (.ifCond .eq 7, 3) := by decide +kernel
theorem dX3_judge_10 : decode cX3_judge 10 = .ok (.iconst 0, 1) := by decide +kernel
theorem dX3_judge_11 : decode cX3_judge 11 = .ok (.goto 4, 3) := by decide +kernel
theorem dX3_judge_14 : decode cX3_judge 14 = .ok (.iconst 1, 1) := by decide +kernel
theorem dX3_judge_15 : decode cX3_judge 15 = .ok (.invokevirtual 55, 3) := by decide +kernel
theorem dX3_judge_18 : decode cX3_judge 18 = .ok (.ifCond .ne 5, 3) := by decide +kernel
theorem dX3_judge_21 : decode cX3_judge 21 = .ok (.iconst 0, 1) := by decide +kernel
theorem dX3_judge_22 : decode cX3_judge 22 = .ok (.ireturn, 1) := by decide +kernel
theorem dX3_judge_23 : decode cX3_judge 23 = .ok (.aload_n 0, 1) := by decide +kernel
theorem dX3_judge_24 : decode cX3_judge 24 = .ok (.iload_n 1, 1) := by decide +kernel
theorem dX3_judge_25 : decode cX3_judge 25 = .ok (.iload_n 2, 1) := by decide +kernel
theorem dX3_judge_26 : decode cX3_judge 26 = .ok (.iload_n 3, 1) := by decide +kernel
theorem dX3_judge_27 : decode cX3_judge 27 = .ok (.invokevirtual 79, 3) := by decide +kernel
theorem dX3_judge_30 : decode cX3_judge 30 = .ok (.istore 4, 2) := by decide +kernel
theorem dX3_judge_32 : decode cX3_judge 32 = .ok (.aload_n 0, 1) := by decide +kernel
theorem dX3_judge_33 : decode cX3_judge 33 = .ok (.dup, 1) := by decide +kernel
theorem dX3_judge_34 : decode cX3_judge 34 = .ok (.getfield 82, 3) := by decide +kernel
theorem dX3_judge_37 : decode cX3_judge 37 = .ok (.iconst 1, 1) := by decide +kernel
theorem dX3_judge_38 : decode cX3_judge 38 = .ok (.iadd, 1) := by decide +kernel
theorem dX3_judge_39 : decode cX3_judge 39 = .ok (.putfield 82, 3) := by decide +kernel
theorem dX3_judge_42 : decode cX3_judge 42 = .ok (.iload 4, 2) := by decide +kernel
theorem dX3_judge_44 : decode cX3_judge 44 = .ok (.aload_n 0, 1) := by decide +kernel
theorem dX3_judge_45 : decode cX3_judge 45 = .ok (.getfield 29, 3) := by decide +kernel
theorem dX3_judge_48 : decode cX3_judge 48 = .ok (.if_icmp .ne 28, 3) := by decide +kernel
theorem dX3_judge_51 : decode cX3_judge 51 = .ok (.aload_n 0, 1) := by decide +kernel
theorem dX3_judge_52 : decode cX3_judge 52 = .ok (.dup, 1) := by decide +kernel
theorem dX3_judge_53 : decode cX3_judge 53 = .ok (.getfield 85, 3) := by decide +kernel
theorem dX3_judge_56 : decode cX3_judge 56 = .ok (.iconst 1, 1) := by decide +kernel
theorem dX3_judge_57 : decode cX3_judge 57 = .ok (.iadd, 1) := by decide +kernel
theorem dX3_judge_58 : decode cX3_judge 58 = .ok (.putfield 85, 3) := by decide +kernel
theorem dX3_judge_61 : decode cX3_judge 61 = .ok (.aload_n 0, 1) := by decide +kernel
theorem dX3_judge_62 : decode cX3_judge 62 = .ok (.dup, 1) := by decide +kernel
theorem dX3_judge_63 : decode cX3_judge 63 = .ok (.getfield 88, 3) := by decide +kernel
theorem dX3_judge_66 : decode cX3_judge 66 = .ok (.aload_n 0, 1) := by decide +kernel
theorem dX3_judge_67 : decode cX3_judge 67 = .ok (.getfield 29, 3) := by decide +kernel
theorem dX3_judge_70 : decode cX3_judge 70 = .ok (.iadd, 1) := by decide +kernel
theorem dX3_judge_71 : decode cX3_judge 71 = .ok (.putfield 88, 3) := by decide +kernel
theorem dX3_judge_74 : decode cX3_judge 74 = .ok (.iconst 0, 1) := by decide +kernel
theorem dX3_judge_75 : decode cX3_judge 75 = .ok (.ireturn, 1) := by decide +kernel
theorem dX3_judge_76 : decode cX3_judge 76 = .ok (.aload_n 0, 1) := by decide +kernel
theorem dX3_judge_77 : decode cX3_judge 77 = .ok (.dup, 1) := by decide +kernel
theorem dX3_judge_78 : decode cX3_judge 78 = .ok (.getfield 88, 3) := by decide +kernel
theorem dX3_judge_81 : decode cX3_judge 81 = .ok (.iload 4, 2) := by decide +kernel
theorem dX3_judge_83 : decode cX3_judge 83 = .ok (.iconst 1, 1) := by decide +kernel
theorem dX3_judge_84 : decode cX3_judge 84 = .ok (.iadd, 1) := by decide +kernel
theorem dX3_judge_85 : decode cX3_judge 85 = .ok (.iadd, 1) := by decide +kernel
theorem dX3_judge_86 : decode cX3_judge 86 = .ok (.putfield 88, 3) := by decide +kernel
theorem dX3_judge_89 : decode cX3_judge 89 = .ok (.aload_n 0, 1) := by decide +kernel
theorem dX3_judge_90 : decode cX3_judge 90 = .ok (.getfield 7, 3) := by decide +kernel
theorem dX3_judge_93 : decode cX3_judge 93 = .ok (.bipush 7, 2) := by decide +kernel
theorem dX3_judge_95 : decode cX3_judge 95 = .ok (.iload 4, 2) := by decide +kernel
theorem dX3_judge_97 : decode cX3_judge 97 = .ok (.imul, 1) := by decide +kernel
theorem dX3_judge_98 : decode cX3_judge 98 = .ok (.bipush 6, 2) := by decide +kernel
theorem dX3_judge_100 : decode cX3_judge 100 = .ok (.iadd, 1) := by decide +kernel
theorem dX3_judge_101 : decode cX3_judge 101 = .ok (.dup2, 1) := by decide +kernel
theorem dX3_judge_102 : decode cX3_judge 102 = .ok (.iaload, 1) := by decide +kernel
theorem dX3_judge_103 : decode cX3_judge 103 = .ok (.iconst 1, 1) := by decide +kernel
theorem dX3_judge_104 : decode cX3_judge 104 = .ok (.iadd, 1) := by decide +kernel
theorem dX3_judge_105 : decode cX3_judge 105 = .ok (.iastore, 1) := by decide +kernel
theorem dX3_judge_106 : decode cX3_judge 106 = .ok (.aload_n 0, 1) := by decide +kernel
theorem dX3_judge_107 : decode cX3_judge 107 = .ok (.iload 4, 2) := by decide +kernel
theorem dX3_judge_109 : decode cX3_judge 109 = .ok (.iconst 5, 1) := by decide +kernel
theorem dX3_judge_110 : decode cX3_judge 110 = .ok (.invokevirtual 36, 3) := by decide +kernel
theorem dX3_judge_113 : decode cX3_judge 113 = .ok (.iconst 1, 1) := by decide +kernel
theorem dX3_judge_114 : decode cX3_judge 114 = .ok (.if_icmp .ne 7, 3) := by decide +kernel
theorem dX3_judge_117 : decode cX3_judge 117 = .ok (.iconst 1, 1) := by decide +kernel
theorem dX3_judge_118 : decode cX3_judge 118 = .ok (.goto 4, 3) := by decide +kernel
theorem dX3_judge_121 : decode cX3_judge 121 = .ok (.iconst 0, 1) := by decide +kernel
theorem dX3_judge_122 : decode cX3_judge 122 = .ok (.ireturn, 1) := by decide +kernel
set_option maxRecDepth 20000 in
theorem ggX3_decider_X3_isPacket : GoodIn wsX3_decider wsX3_isPacket := goodIn_r _ [5, 6, 7, 4, 8] (by decide +kernel) (by decide +kernel)
set_option maxRecDepth 20000 in
theorem gX3_decider_X3_isPacket : GoodIn wsX3_decider (va_wsS RX3 76 yX3_isPacket wsX3_isPacket) := goodIn_app (goodIn_of _ (by decide +kernel)) ggX3_decider_X3_isPacket
set_option maxRecDepth 20000 in
theorem ggX3_decider_X3_first : GoodIn wsX3_decider wsX3_first := goodIn_r _ [12, 1, 13, 14, 15, 4, 16, 17, 18, 19, 20, 21, 6, 7, 8, 27, 28, 29, 30, 31, 32, 33, 34, 35, 36] (by decide +kernel) (by decide +kernel)
set_option maxRecDepth 20000 in
theorem gX3_decider_X3_first : GoodIn wsX3_decider (wsV RX3 79 RX3 yX3_first wsX3_first) := goodIn_app (goodIn_of _ (by decide +kernel)) ggX3_decider_X3_first
set_option maxRecDepth 20000 in
theorem ggX3_decider_X3_holds : GoodIn wsX3_decider wsX3_holds := goodIn_r _ [25, 26, 27, 28, 29, 30, 31, 32, 33, 34, 35, 36] (by decide +kernel) (by decide +kernel)
set_option maxRecDepth 20000 in
theorem gX3_decider_X3_holds : GoodIn wsX3_decider (wsV RX3 55 RX3 yX3_holds wsX3_holds) := goodIn_app (goodIn_of _ (by decide +kernel)) ggX3_decider_X3_holds
theorem dX3_decider_0 : decode cX3_decider 0 = .ok (.iload_n 1, 1) := by decide +kernel
theorem dX3_decider_1 : decode cX3_decider 1 = .ok (.iload_n 2, 1) := by decide +kernel
theorem dX3_decider_2 : decode cX3_decider 2 = .ok (.iload_n 3, 1) := by decide +kernel
theorem dX3_decider_3 : decode cX3_decider 3 = .ok (.invokestatic 76, 3) := by decide +kernel
theorem dX3_decider_6 : decode cX3_decider 6 = .ok (.istore 4, 2) := by decide +kernel
theorem dX3_decider_8 : decode cX3_decider 8 = .ok (.iload 4, 2) := by decide +kernel
theorem dX3_decider_10 : decode cX3_decider 10 = .ok (.ifCond .eq 13, 3) := by decide +kernel
theorem dX3_decider_13 : decode cX3_decider 13 = .ok (.aload_n 0, 1) := by decide +kernel
theorem dX3_decider_14 : decode cX3_decider 14 = .ok (.iload_n 1, 1) := by decide +kernel
theorem dX3_decider_15 : decode cX3_decider 15 = .ok (.iload_n 2, 1) := by decide +kernel
theorem dX3_decider_16 : decode cX3_decider 16 = .ok (.iload_n 3, 1) := by decide +kernel
theorem dX3_decider_17 : decode cX3_decider 17 = .ok (.invokevirtual 79, 3) := by decide +kernel
theorem dX3_decider_20 : decode cX3_decider 20 = .ok (.goto 4, 3) := by decide +kernel
theorem dX3_decider_23 : decode cX3_decider 23 = .ok (.iconst 0, 1) := by decide +kernel
theorem dX3_decider_24 : decode cX3_decider 24 = .ok (.istore 5, 2) := by decide +kernel
theorem dX3_decider_26 : decode cX3_decider 26 = .ok (.aload_n 0, 1) := by decide +kernel
theorem dX3_decider_27 : decode cX3_decider 27 = .ok (.iload 4, 2) := by decide +kernel
theorem dX3_decider_29 : decode cX3_decider 29 = .ok (.ifCond .ne 7, 3) := by decide +kernel
theorem dX3_decider_32 : decode cX3_decider 32 = .ok (.iconst 1, 1) := by decide +kernel
theorem dX3_decider_33 : decode cX3_decider 33 = .ok (.goto 17, 3) := by decide +kernel
theorem dX3_decider_36 : decode cX3_decider 36 = .ok (.iload 5, 2) := by decide +kernel
theorem dX3_decider_38 : decode cX3_decider 38 = .ok (.aload_n 0, 1) := by decide +kernel
theorem dX3_decider_39 : decode cX3_decider 39 = .ok (.getfield 29, 3) := by decide +kernel
theorem dX3_decider_42 : decode cX3_decider 42 = .ok (.if_icmp .ne 7, 3) := by decide +kernel
theorem dX3_decider_45 : decode cX3_decider 45 = .ok (.iconst 2, 1) := by decide +kernel
theorem dX3_decider_46 : decode cX3_decider 46 = .ok (.goto 4, 3) := by decide +kernel
theorem dX3_decider_49 : decode cX3_decider 49 = .ok (.iconst 0, 1) := by decide +kernel
theorem dX3_decider_50 : decode cX3_decider 50 = .ok (.invokevirtual 55, 3) := by decide +kernel
theorem dX3_decider_53 : decode cX3_decider 53 = .ok (.ifCond .eq 8, 3) := by decide +kernel
theorem dX3_decider_56 : decode cX3_decider 56 = .ok (.iload 5, 2) := by decide +kernel
theorem dX3_decider_58 : decode cX3_decider 58 = .ok (.goto 4, 3) := by decide +kernel
theorem dX3_decider_61 : decode cX3_decider 61 = .ok (.iconst 0, 1) := by decide +kernel
theorem dX3_decider_62 : decode cX3_decider 62 = .ok (.ireturn, 1) := by decide +kernel
set_option maxRecDepth 20000 in
theorem ggX3_hits_X3_isPlace : GoodIn wsX3_hits wsX3_isPlace := goodIn_r _ [5, 6, 7, 8, 4, 9, 20, 21, 22, 23, 24, 25, 26, 27, 28, 29] (by decide +kernel) (by decide +kernel)
set_option maxRecDepth 20000 in
theorem gX3_hits_X3_isPlace : GoodIn wsX3_hits (wsV RX3 63 RX3 yX3_isPlace wsX3_isPlace) := goodIn_app (goodIn_of _ (by decide +kernel)) ggX3_hits_X3_isPlace
set_option maxRecDepth 20000 in
theorem ggX3_hits_X3_holds : GoodIn wsX3_hits wsX3_holds := goodIn_r _ [13, 14, 20, 21, 22, 23, 24, 25, 26, 27, 28, 29] (by decide +kernel) (by decide +kernel)
set_option maxRecDepth 20000 in
theorem gX3_hits_X3_holds : GoodIn wsX3_hits (wsV RX3 55 RX3 yX3_holds wsX3_holds) := goodIn_app (goodIn_of _ (by decide +kernel)) ggX3_hits_X3_holds
set_option maxRecDepth 20000 in
theorem ggX3_hits_X3_of : GoodIn wsX3_hits wsX3_of := goodIn_r _ [18, 19, 20, 21, 22, 23, 24, 25, 26, 27, 28, 29] (by decide +kernel) (by decide +kernel)
set_option maxRecDepth 20000 in
theorem gX3_hits_X3_of : GoodIn wsX3_hits (wsV RX3 36 RX3 yX3_of wsX3_of) := goodIn_app (goodIn_of _ (by decide +kernel)) ggX3_hits_X3_of
theorem dX3_hits_0 : decode cX3_hits 0 = .ok (.aload_n 0, 1) := by decide +kernel
theorem dX3_hits_1 : decode cX3_hits 1 = .ok (.aload_n 0, 1) := by decide +kernel
theorem dX3_hits_2 : decode cX3_hits 2 = .ok (.iload_n 1, 1) := by decide +kernel
theorem dX3_hits_3 : decode cX3_hits 3 = .ok (.invokevirtual 63, 3) := by decide +kernel
theorem dX3_hits_6 : decode cX3_hits 6 = .ok (.ifCond .eq 7, 3) := by decide +kernel
theorem dX3_hits_9 : decode cX3_hits 9 = .ok (.iconst 0, 1) := by decide +kernel
theorem dX3_hits_10 : decode cX3_hits 10 = .ok (.goto 4, 3) := by decide +kernel
theorem dX3_hits_13 : decode cX3_hits 13 = .ok (.iconst 1, 1) := by decide +kernel
theorem dX3_hits_14 : decode cX3_hits 14 = .ok (.invokevirtual 55, 3) := by decide +kernel
theorem dX3_hits_17 : decode cX3_hits 17 = .ok (.ifCond .eq 13, 3) := by decide +kernel
theorem dX3_hits_20 : decode cX3_hits 20 = .ok (.aload_n 0, 1) := by decide +kernel
theorem dX3_hits_21 : decode cX3_hits 21 = .ok (.iload_n 1, 1) := by decide +kernel
theorem dX3_hits_22 : decode cX3_hits 22 = .ok (.bipush 6, 2) := by decide +kernel
theorem dX3_hits_24 : decode cX3_hits 24 = .ok (.invokevirtual 36, 3) := by decide +kernel
theorem dX3_hits_27 : decode cX3_hits 27 = .ok (.goto 4, 3) := by decide +kernel
theorem dX3_hits_30 : decode cX3_hits 30 = .ok (.iconst 0, 1) := by decide +kernel
theorem dX3_hits_31 : decode cX3_hits 31 = .ok (.ireturn, 1) := by decide +kernel
theorem dX3_misses_0 : decode cX3_misses 0 = .ok (.aload_n 0, 1) := by decide +kernel
theorem dX3_misses_1 : decode cX3_misses 1 = .ok (.iconst 0, 1) := by decide +kernel
theorem dX3_misses_2 : decode cX3_misses 2 = .ok (.putfield 25, 3) := by decide +kernel
theorem dX3_misses_5 : decode cX3_misses 5 = .ok (.aload_n 0, 1) := by decide +kernel
theorem dX3_misses_6 : decode cX3_misses 6 = .ok (.getfield 85, 3) := by decide +kernel
theorem dX3_misses_9 : decode cX3_misses 9 = .ok (.ireturn, 1) := by decide +kernel
theorem dX3_averageLooks_0 : decode cX3_averageLooks 0 = .ok (.aload_n 0, 1) := by decide +kernel
theorem dX3_averageLooks_1 : decode cX3_averageLooks 1 = .ok (.iconst 0, 1) := by decide +kernel
theorem dX3_averageLooks_2 : decode cX3_averageLooks 2 = .ok (.putfield 25, 3) := by decide +kernel
theorem dX3_averageLooks_5 : decode cX3_averageLooks 5 = .ok (.aload_n 0, 1) := by decide +kernel
theorem dX3_averageLooks_6 : decode cX3_averageLooks 6 = .ok (.getfield 82, 3) := by decide +kernel
theorem dX3_averageLooks_9 : decode cX3_averageLooks 9 = .ok (.ifCond .ne 7, 3) := by decide +kernel
theorem dX3_averageLooks_12 : decode cX3_averageLooks 12 = .ok (.fconst 0, 1) := by decide +kernel
theorem dX3_averageLooks_13 : decode cX3_averageLooks 13 = .ok (.goto 14, 3) := by decide +kernel
theorem dX3_averageLooks_16 : decode cX3_averageLooks 16 = .ok (.aload_n 0, 1) := by decide +kernel
theorem dX3_averageLooks_17 : decode cX3_averageLooks 17 = .ok (.getfield 88, 3) := by decide +kernel
theorem dX3_averageLooks_20 : decode cX3_averageLooks 20 = .ok (.i2f, 1) := by decide +kernel
theorem dX3_averageLooks_21 : decode cX3_averageLooks 21 = .ok (.aload_n 0, 1) := by decide +kernel
theorem dX3_averageLooks_22 : decode cX3_averageLooks 22 = .ok (.getfield 82, 3) := by decide +kernel
theorem dX3_averageLooks_25 : decode cX3_averageLooks 25 = .ok (.i2f, 1) := by decide +kernel
theorem dX3_averageLooks_26 : decode cX3_averageLooks 26 = .ok (.fdiv, 1) := by decide +kernel
theorem dX3_averageLooks_27 : decode cX3_averageLooks 27 = .ok (.freturn, 1) := by decide +kernel
set_option maxRecDepth 20000 in
theorem ggX3_decided_X3_matches : GoodIn wsX3_decided wsX3_matches := goodIn_r _ [5, 6, 7, 8, 4, 9, 10, 11, 12, 13, 17, 18, 19, 20, 21, 22, 23, 24, 25, 26] (by decide +kernel) (by decide +kernel)
set_option maxRecDepth 20000 in
theorem gX3_decided_X3_matches : GoodIn wsX3_decided (wsV RX3 40 RX3 yX3_matches wsX3_matches) := goodIn_app (goodIn_of _ (by decide +kernel)) ggX3_decided_X3_matches
set_option maxRecDepth 20000 in
theorem ggX3_decided_X3_many : GoodIn wsX3_decided wsX3_many := goodIn_r _ [16] (by decide +kernel) (by decide +kernel)
set_option maxRecDepth 20000 in
theorem gX3_decided_X3_many : GoodIn wsX3_decided (va_wsS RX3 47 yX3_many wsX3_many) := goodIn_app (goodIn_of _ (by decide +kernel)) ggX3_decided_X3_many
theorem dX3_decided_0 : decode cX3_decided 0 = .ok (.iconst 0, 1) := by decide +kernel
theorem dX3_decided_1 : decode cX3_decided 1 = .ok (.istore_n 2, 1) := by decide +kernel
theorem dX3_decided_2 : decode cX3_decided 2 = .ok (.iconst 0, 1) := by decide +kernel
theorem dX3_decided_3 : decode cX3_decided 3 = .ok (.istore_n 3, 1) := by decide +kernel
theorem dX3_decided_4 : decode cX3_decided 4 = .ok (.iload_n 3, 1) := by decide +kernel
theorem dX3_decided_5 : decode cX3_decided 5 = .ok (.sipush 128, 3) := by decide +kernel
theorem dX3_decided_8 : decode cX3_decided 8 = .ok (.if_icmp .ge 64, 3) := by decide +kernel
theorem dX3_decided_11 : decode cX3_decided 11 = .ok (.aload_n 0, 1) := by decide +kernel
theorem dX3_decided_12 : decode cX3_decided 12 = .ok (.iload_n 1, 1) := by decide +kernel
theorem dX3_decided_13 : decode cX3_decided 13 = .ok (.iload_n 3, 1) := by decide +kernel
theorem dX3_decided_14 : decode cX3_decided 14 = .ok (.iconst 4, 1) := by decide +kernel
theorem dX3_decided_15 : decode cX3_decided 15 = .ok (.idiv, 1) := by decide +kernel
theorem dX3_decided_16 : decode cX3_decided 16 = .ok (.iload_n 3, 1) := by decide +kernel
theorem dX3_decided_17 : decode cX3_decided 17 = .ok (.iconst 4, 1) := by decide +kernel
theorem dX3_decided_18 : decode cX3_decided 18 = .ok (.irem, 1) := by decide +kernel
theorem dX3_decided_19 : decode cX3_decided 19 = .ok (.invokevirtual 40, 3) := by decide +kernel
theorem dX3_decided_22 : decode cX3_decided 22 = .ok (.istore 4, 2) := by decide +kernel
theorem dX3_decided_24 : decode cX3_decided 24 = .ok (.iconst 0, 1) := by decide +kernel
theorem dX3_decided_25 : decode cX3_decided 25 = .ok (.istore 5, 2) := by decide +kernel
theorem dX3_decided_27 : decode cX3_decided 27 = .ok (.iload 5, 2) := by decide +kernel
theorem dX3_decided_29 : decode cX3_decided 29 = .ok (.iload_n 1, 1) := by decide +kernel
theorem dX3_decided_30 : decode cX3_decided 30 = .ok (.if_icmp .ge 28, 3) := by decide +kernel
theorem dX3_decided_33 : decode cX3_decided 33 = .ok (.iload 4, 2) := by decide +kernel
theorem dX3_decided_35 : decode cX3_decided 35 = .ok (.aload_n 0, 1) := by decide +kernel
theorem dX3_decided_36 : decode cX3_decided 36 = .ok (.iload 5, 2) := by decide +kernel
theorem dX3_decided_38 : decode cX3_decided 38 = .ok (.iload_n 3, 1) := by decide +kernel
theorem dX3_decided_39 : decode cX3_decided 39 = .ok (.iconst 4, 1) := by decide +kernel
theorem dX3_decided_40 : decode cX3_decided 40 = .ok (.idiv, 1) := by decide +kernel
theorem dX3_decided_41 : decode cX3_decided 41 = .ok (.iload_n 3, 1) := by decide +kernel
theorem dX3_decided_42 : decode cX3_decided 42 = .ok (.iconst 4, 1) := by decide +kernel
theorem dX3_decided_43 : decode cX3_decided 43 = .ok (.irem, 1) := by decide +kernel
theorem dX3_decided_44 : decode cX3_decided 44 = .ok (.invokevirtual 40, 3) := by decide +kernel
theorem dX3_decided_47 : decode cX3_decided 47 = .ok (.iconst (-1), 1) := by decide +kernel
theorem dX3_decided_48 : decode cX3_decided 48 = .ok (.ixor, 1) := by decide +kernel
theorem dX3_decided_49 : decode cX3_decided 49 = .ok (.iand, 1) := by decide +kernel
theorem dX3_decided_50 : decode cX3_decided 50 = .ok (.istore 4, 2) := by decide +kernel
theorem dX3_decided_52 : decode cX3_decided 52 = .ok (.iinc 5 1, 3) := by decide +kernel
theorem dX3_decided_55 : decode cX3_decided 55 = .ok (.goto (-28), 3) := by decide +kernel
theorem dX3_decided_58 : decode cX3_decided 58 = .ok (.iload_n 2, 1) := by decide +kernel
theorem dX3_decided_59 : decode cX3_decided 59 = .ok (.iload 4, 2) := by decide +kernel
theorem dX3_decided_61 : decode cX3_decided 61 = .ok (.invokestatic 47, 3) := by decide +kernel
theorem dX3_decided_64 : decode cX3_decided 64 = .ok (.iadd, 1) := by decide +kernel
theorem dX3_decided_65 : decode cX3_decided 65 = .ok (.istore_n 2, 1) := by decide +kernel
theorem dX3_decided_66 : decode cX3_decided 66 = .ok (.iinc 3 1, 3) := by decide +kernel
theorem dX3_decided_69 : decode cX3_decided 69 = .ok (.goto (-65), 3) := by decide +kernel
theorem dX3_decided_72 : decode cX3_decided 72 = .ok (.iload_n 2, 1) := by decide +kernel
theorem dX3_decided_73 : decode cX3_decided 73 = .ok (.ireturn, 1) := by decide +kernel
set_option maxRecDepth 20000 in
theorem ggX3_decides_X3_isPlace : GoodIn wsX3_decides wsX3_isPlace := goodIn_r _ [5, 6, 7, 8, 4, 9, 31, 32, 33, 34, 35, 36, 37, 38, 39, 40] (by decide +kernel) (by decide +kernel)
set_option maxRecDepth 20000 in
theorem gX3_decides_X3_isPlace : GoodIn wsX3_decides (wsV RX3 63 RX3 yX3_isPlace wsX3_isPlace) := goodIn_app (goodIn_of _ (by decide +kernel)) ggX3_decides_X3_isPlace
set_option maxRecDepth 20000 in
theorem ggX3_decides_X3_holds : GoodIn wsX3_decides wsX3_holds := goodIn_r _ [13, 14, 31, 32, 33, 34, 35, 36, 37, 38, 39, 40] (by decide +kernel) (by decide +kernel)
set_option maxRecDepth 20000 in
theorem gX3_decides_X3_holds : GoodIn wsX3_decides (wsV RX3 55 RX3 yX3_holds wsX3_holds) := goodIn_app (goodIn_of _ (by decide +kernel)) ggX3_decides_X3_holds
set_option maxRecDepth 20000 in
theorem ggX3_decides_X3_decided : GoodIn wsX3_decides wsX3_decided := goodIn_r _ [18, 19, 20, 21, 4, 22, 23, 24, 25, 26, 27, 7, 8, 9, 28, 29, 30, 31, 32, 33, 34, 35, 36, 37, 38, 39, 40] (by decide +kernel) (by decide +kernel)
set_option maxRecDepth 20000 in
theorem gX3_decides_X3_decided : GoodIn wsX3_decides (wsV RX3 91 RX3 yX3_decided wsX3_decided) := goodIn_app (goodIn_of _ (by decide +kernel)) ggX3_decides_X3_decided
theorem dX3_decides_0 : decode cX3_decides 0 = .ok (.aload_n 0, 1) := by decide +kernel
theorem dX3_decides_1 : decode cX3_decides 1 = .ok (.aload_n 0, 1) := by decide +kernel
theorem dX3_decides_2 : decode cX3_decides 2 = .ok (.iload_n 1, 1) := by decide +kernel
theorem dX3_decides_3 : decode cX3_decides 3 = .ok (.invokevirtual 63, 3) := by decide +kernel
theorem dX3_decides_6 : decode cX3_decides 6 = .ok (.ifCond .eq 7, 3) := by decide +kernel
theorem dX3_decides_9 : decode cX3_decides 9 = .ok (.iconst 0, 1) := by decide +kernel
theorem dX3_decides_10 : decode cX3_decides 10 = .ok (.goto 4, 3) := by decide +kernel
theorem dX3_decides_13 : decode cX3_decides 13 = .ok (.iconst 1, 1) := by decide +kernel
theorem dX3_decides_14 : decode cX3_decides 14 = .ok (.invokevirtual 55, 3) := by decide +kernel
theorem dX3_decides_17 : decode cX3_decides 17 = .ok (.ifCond .eq 11, 3) := by decide +kernel
theorem dX3_decides_20 : decode cX3_decides 20 = .ok (.aload_n 0, 1) := by decide +kernel
theorem dX3_decides_21 : decode cX3_decides 21 = .ok (.iload_n 1, 1) := by decide +kernel
theorem dX3_decides_22 : decode cX3_decides 22 = .ok (.invokevirtual 91, 3) := by decide +kernel
theorem dX3_decides_25 : decode cX3_decides 25 = .ok (.goto 4, 3) := by decide +kernel
theorem dX3_decides_28 : decode cX3_decides 28 = .ok (.iconst 0, 1) := by decide +kernel
theorem dX3_decides_29 : decode cX3_decides 29 = .ok (.ireturn, 1) := by decide +kernel
set_option maxRecDepth 20000 in
theorem ggX3_common_X3_matches : GoodIn wsX3_common wsX3_matches := goodIn_r _ [5, 6, 7, 8, 4, 9, 10, 11, 12, 13, 17, 18, 19, 20, 21, 22, 23, 24, 25, 26] (by decide +kernel) (by decide +kernel)
set_option maxRecDepth 20000 in
theorem gX3_common_X3_matches : GoodIn wsX3_common (wsV RX3 40 RX3 yX3_matches wsX3_matches) := goodIn_app (goodIn_of _ (by decide +kernel)) ggX3_common_X3_matches
set_option maxRecDepth 20000 in
theorem ggX3_common_X3_many : GoodIn wsX3_common wsX3_many := goodIn_r _ [16] (by decide +kernel) (by decide +kernel)
set_option maxRecDepth 20000 in
theorem gX3_common_X3_many : GoodIn wsX3_common (va_wsS RX3 47 yX3_many wsX3_many) := goodIn_app (goodIn_of _ (by decide +kernel)) ggX3_common_X3_many
theorem dX3_common_0 : decode cX3_common 0 = .ok (.iconst 0, 1) := by decide +kernel
theorem dX3_common_1 : decode cX3_common 1 = .ok (.istore_n 3, 1) := by decide +kernel
theorem dX3_common_2 : decode cX3_common 2 = .ok (.iconst 0, 1) := by decide +kernel
theorem dX3_common_3 : decode cX3_common 3 = .ok (.istore 4, 2) := by decide +kernel
theorem dX3_common_5 : decode cX3_common 5 = .ok (.iload 4, 2) := by decide +kernel
theorem dX3_common_7 : decode cX3_common 7 = .ok (.sipush 128, 3) := by decide +kernel
theorem dX3_common_10 : decode cX3_common 10 = .ok (.if_icmp .ge 42, 3) := by decide +kernel
theorem dX3_common_13 : decode cX3_common 13 = .ok (.iload_n 3, 1) := by decide +kernel
theorem dX3_common_14 : decode cX3_common 14 = .ok (.aload_n 0, 1) := by decide +kernel
theorem dX3_common_15 : decode cX3_common 15 = .ok (.iload_n 1, 1) := by decide +kernel
theorem dX3_common_16 : decode cX3_common 16 = .ok (.iload 4, 2) := by decide +kernel
theorem dX3_common_18 : decode cX3_common 18 = .ok (.iconst 4, 1) := by decide +kernel
theorem dX3_common_19 : decode cX3_common 19 = .ok (.idiv, 1) := by decide +kernel
theorem dX3_common_20 : decode cX3_common 20 = .ok (.iload 4, 2) := by decide +kernel
theorem dX3_common_22 : decode cX3_common 22 = .ok (.iconst 4, 1) := by decide +kernel
theorem dX3_common_23 : decode cX3_common 23 = .ok (.irem, 1) := by decide +kernel
theorem dX3_common_24 : decode cX3_common 24 = .ok (.invokevirtual 40, 3) := by decide +kernel
theorem dX3_common_27 : decode cX3_common 27 = .ok (.aload_n 0, 1) := by decide +kernel
theorem dX3_common_28 : decode cX3_common 28 = .ok (.iload_n 2, 1) := by decide +kernel
theorem dX3_common_29 : decode cX3_common 29 = .ok (.iload 4, 2) := by decide +kernel
theorem dX3_common_31 : decode cX3_common 31 = .ok (.iconst 4, 1) := by decide +kernel
theorem dX3_common_32 : decode cX3_common 32 = .ok (.idiv, 1) := by decide +kernel
theorem dX3_common_33 : decode cX3_common 33 = .ok (.iload 4, 2) := by decide +kernel
theorem dX3_common_35 : decode cX3_common 35 = .ok (.iconst 4, 1) := by decide +kernel
theorem dX3_common_36 : decode cX3_common 36 = .ok (.irem, 1) := by decide +kernel
theorem dX3_common_37 : decode cX3_common 37 = .ok (.invokevirtual 40, 3) := by decide +kernel
theorem dX3_common_40 : decode cX3_common 40 = .ok (.iand, 1) := by decide +kernel
theorem dX3_common_41 : decode cX3_common 41 = .ok (.invokestatic 47, 3) := by decide +kernel
theorem dX3_common_44 : decode cX3_common 44 = .ok (.iadd, 1) := by decide +kernel
theorem dX3_common_45 : decode cX3_common 45 = .ok (.istore_n 3, 1) := by decide +kernel
theorem dX3_common_46 : decode cX3_common 46 = .ok (.iinc 4 1, 3) := by decide +kernel
theorem dX3_common_49 : decode cX3_common 49 = .ok (.goto (-44), 3) := by decide +kernel
theorem dX3_common_52 : decode cX3_common 52 = .ok (.iload_n 3, 1) := by decide +kernel
theorem dX3_common_53 : decode cX3_common 53 = .ok (.ireturn, 1) := by decide +kernel
set_option maxRecDepth 20000 in
theorem ggX3_overlap_X3_isPlace : GoodIn wsX3_overlap wsX3_isPlace := goodIn_r _ [5, 6, 7, 8, 4, 9, 31, 32, 33, 34, 35, 36, 37, 38, 39, 40] (by decide +kernel) (by decide +kernel)
set_option maxRecDepth 20000 in
theorem gX3_overlap_X3_isPlace : GoodIn wsX3_overlap (wsV RX3 63 RX3 yX3_isPlace wsX3_isPlace) := goodIn_app (goodIn_of _ (by decide +kernel)) ggX3_overlap_X3_isPlace
set_option maxRecDepth 20000 in
theorem ggX3_overlap_X3_holds : GoodIn wsX3_overlap wsX3_holds := goodIn_r _ [13, 14, 31, 32, 33, 34, 35, 36, 37, 38, 39, 40] (by decide +kernel) (by decide +kernel)
set_option maxRecDepth 20000 in
theorem gX3_overlap_X3_holds : GoodIn wsX3_overlap (wsV RX3 55 RX3 yX3_holds wsX3_holds) := goodIn_app (goodIn_of _ (by decide +kernel)) ggX3_overlap_X3_holds
set_option maxRecDepth 20000 in
theorem ggX3_overlap_X3_common : GoodIn wsX3_overlap wsX3_common := goodIn_r _ [18, 19, 20, 21, 4, 22, 23, 24, 25, 26, 27, 7, 8, 9, 28, 29, 30, 31, 32, 33, 34, 35, 36, 37, 38, 39, 40] (by decide +kernel) (by decide +kernel)
set_option maxRecDepth 20000 in
theorem gX3_overlap_X3_common : GoodIn wsX3_overlap (wsV RX3 94 RX3 yX3_common wsX3_common) := goodIn_app (goodIn_of _ (by decide +kernel)) ggX3_overlap_X3_common
theorem dX3_overlap_0 : decode cX3_overlap 0 = .ok (.aload_n 0, 1) := by decide +kernel
theorem dX3_overlap_1 : decode cX3_overlap 1 = .ok (.aload_n 0, 1) := by decide +kernel
theorem dX3_overlap_2 : decode cX3_overlap 2 = .ok (.iload_n 1, 1) := by decide +kernel
theorem dX3_overlap_3 : decode cX3_overlap 3 = .ok (.invokevirtual 63, 3) := by decide +kernel
theorem dX3_overlap_6 : decode cX3_overlap 6 = .ok (.ifCond .eq 15, 3) := by decide +kernel
theorem dX3_overlap_9 : decode cX3_overlap 9 = .ok (.aload_n 0, 1) := by decide +kernel
theorem dX3_overlap_10 : decode cX3_overlap 10 = .ok (.iload_n 2, 1) := by decide +kernel
theorem dX3_overlap_11 : decode cX3_overlap 11 = .ok (.invokevirtual 63, 3) := by decide +kernel
theorem dX3_overlap_14 : decode cX3_overlap 14 = .ok (.ifCond .eq 7, 3) := by decide +kernel
theorem dX3_overlap_17 : decode cX3_overlap 17 = .ok (.iconst 0, 1) := by decide +kernel
theorem dX3_overlap_18 : decode cX3_overlap 18 = .ok (.goto 4, 3) := by decide +kernel
theorem dX3_overlap_21 : decode cX3_overlap 21 = .ok (.iconst 1, 1) := by decide +kernel
theorem dX3_overlap_22 : decode cX3_overlap 22 = .ok (.invokevirtual 55, 3) := by decide +kernel
theorem dX3_overlap_25 : decode cX3_overlap 25 = .ok (.ifCond .eq 12, 3) := by decide +kernel
theorem dX3_overlap_28 : decode cX3_overlap 28 = .ok (.aload_n 0, 1) := by decide +kernel
theorem dX3_overlap_29 : decode cX3_overlap 29 = .ok (.iload_n 1, 1) := by decide +kernel
theorem dX3_overlap_30 : decode cX3_overlap 30 = .ok (.iload_n 2, 1) := by decide +kernel
theorem dX3_overlap_31 : decode cX3_overlap 31 = .ok (.invokevirtual 94, 3) := by decide +kernel
theorem dX3_overlap_34 : decode cX3_overlap 34 = .ok (.goto 4, 3) := by decide +kernel
theorem dX3_overlap_37 : decode cX3_overlap 37 = .ok (.iconst 0, 1) := by decide +kernel
theorem dX3_overlap_38 : decode cX3_overlap 38 = .ok (.ireturn, 1) := by decide +kernel
set_option maxRecDepth 20000 in
theorem ggX3_isShadowed_X3_isPlace : GoodIn wsX3_isShadowed wsX3_isPlace := goodIn_r _ [5, 6, 7, 8, 4, 9, 31, 32, 33, 34, 35, 36, 37, 38, 39, 40] (by decide +kernel) (by decide +kernel)
set_option maxRecDepth 20000 in
theorem gX3_isShadowed_X3_isPlace : GoodIn wsX3_isShadowed (wsV RX3 63 RX3 yX3_isPlace wsX3_isPlace) := goodIn_app (goodIn_of _ (by decide +kernel)) ggX3_isShadowed_X3_isPlace
set_option maxRecDepth 20000 in
theorem ggX3_isShadowed_X3_holds : GoodIn wsX3_isShadowed wsX3_holds := goodIn_r _ [13, 14, 31, 32, 33, 34, 35, 36, 37, 38, 39, 40] (by decide +kernel) (by decide +kernel)
set_option maxRecDepth 20000 in
theorem gX3_isShadowed_X3_holds : GoodIn wsX3_isShadowed (wsV RX3 55 RX3 yX3_holds wsX3_holds) := goodIn_app (goodIn_of _ (by decide +kernel)) ggX3_isShadowed_X3_holds
set_option maxRecDepth 20000 in
theorem ggX3_isShadowed_X3_decided : GoodIn wsX3_isShadowed wsX3_decided := goodIn_r _ [18, 19, 20, 21, 4, 22, 23, 24, 25, 26, 27, 7, 8, 9, 28, 29, 30, 31, 32, 33, 34, 35, 36, 37, 38, 39, 40] (by decide +kernel) (by decide +kernel)
set_option maxRecDepth 20000 in
theorem gX3_isShadowed_X3_decided : GoodIn wsX3_isShadowed (wsV RX3 91 RX3 yX3_decided wsX3_decided) := goodIn_app (goodIn_of _ (by decide +kernel)) ggX3_isShadowed_X3_decided
theorem dX3_isShadowed_0 : decode cX3_isShadowed 0 = .ok (.aload_n 0, 1) := by decide +kernel
theorem dX3_isShadowed_1 : decode cX3_isShadowed 1 = .ok (.aload_n 0, 1) := by decide +kernel
theorem dX3_isShadowed_2 : decode cX3_isShadowed 2 = .ok (.iload_n 1, 1) := by decide +kernel
theorem dX3_isShadowed_3 : decode cX3_isShadowed 3 = .ok (.invokevirtual 63, 3) := by decide +kernel
theorem dX3_isShadowed_6 : decode cX3_isShadowed 6 = .ok (.ifCond .eq 7, 3) := by decide +kernel
theorem dX3_isShadowed_9 : decode cX3_isShadowed 9 = .ok (.iconst 0, 1) := by decide +kernel
theorem dX3_isShadowed_10 : decode cX3_isShadowed 10 = .ok (.goto 4, 3) := by decide +kernel
theorem dX3_isShadowed_13 : decode cX3_isShadowed 13 = .ok (.iconst 1, 1) := by decide +kernel
theorem dX3_isShadowed_14 : decode cX3_isShadowed 14 = .ok (.invokevirtual 55, 3) := by decide +kernel
theorem dX3_isShadowed_17 : decode cX3_isShadowed 17 = .ok (.ifCond .eq 15, 3) := by decide +kernel
theorem dX3_isShadowed_20 : decode cX3_isShadowed 20 = .ok (.aload_n 0, 1) := by decide +kernel
theorem dX3_isShadowed_21 : decode cX3_isShadowed 21 = .ok (.iload_n 1, 1) := by decide +kernel
theorem dX3_isShadowed_22 : decode cX3_isShadowed 22 = .ok (.invokevirtual 91, 3) := by decide +kernel
theorem dX3_isShadowed_25 : decode cX3_isShadowed 25 = .ok (.ifCond .ne 7, 3) := by decide +kernel
theorem dX3_isShadowed_28 : decode cX3_isShadowed 28 = .ok (.iconst 1, 1) := by decide +kernel
theorem dX3_isShadowed_29 : decode cX3_isShadowed 29 = .ok (.goto 4, 3) := by decide +kernel
theorem dX3_isShadowed_32 : decode cX3_isShadowed 32 = .ok (.iconst 0, 1) := by decide +kernel
theorem dX3_isShadowed_33 : decode cX3_isShadowed 33 = .ok (.ireturn, 1) := by decide +kernel
set_option maxRecDepth 20000 in
theorem ggX3_shadowedBy_X3_isPlace : GoodIn wsX3_shadowedBy wsX3_isPlace := goodIn_r _ [5, 6, 7, 8, 4, 9, 31, 32, 33, 34, 35, 36, 37, 38, 39, 40] (by decide +kernel) (by decide +kernel)
set_option maxRecDepth 20000 in
theorem gX3_shadowedBy_X3_isPlace : GoodIn wsX3_shadowedBy (wsV RX3 63 RX3 yX3_isPlace wsX3_isPlace) := goodIn_app (goodIn_of _ (by decide +kernel)) ggX3_shadowedBy_X3_isPlace
set_option maxRecDepth 20000 in
theorem ggX3_shadowedBy_X3_holds : GoodIn wsX3_shadowedBy wsX3_holds := goodIn_r _ [13, 14, 31, 32, 33, 34, 35, 36, 37, 38, 39, 40] (by decide +kernel) (by decide +kernel)
set_option maxRecDepth 20000 in
theorem gX3_shadowedBy_X3_holds : GoodIn wsX3_shadowedBy (wsV RX3 55 RX3 yX3_holds wsX3_holds) := goodIn_app (goodIn_of _ (by decide +kernel)) ggX3_shadowedBy_X3_holds
set_option maxRecDepth 20000 in
theorem ggX3_shadowedBy_X3_common : GoodIn wsX3_shadowedBy wsX3_common := goodIn_r _ [18, 19, 20, 21, 4, 22, 23, 24, 25, 26, 27, 7, 8, 9, 28, 29, 30, 31, 32, 33, 34, 35, 36, 37, 38, 39, 40] (by decide +kernel) (by decide +kernel)
set_option maxRecDepth 20000 in
theorem gX3_shadowedBy_X3_common : GoodIn wsX3_shadowedBy (wsV RX3 94 RX3 yX3_common wsX3_common) := goodIn_app (goodIn_of _ (by decide +kernel)) ggX3_shadowedBy_X3_common
theorem dX3_shadowedBy_0 : decode cX3_shadowedBy 0 = .ok (.aload_n 0, 1) := by decide +kernel
theorem dX3_shadowedBy_1 : decode cX3_shadowedBy 1 = .ok (.aload_n 0, 1) := by decide +kernel
theorem dX3_shadowedBy_2 : decode cX3_shadowedBy 2 = .ok (.iload_n 1, 1) := by decide +kernel
theorem dX3_shadowedBy_3 : decode cX3_shadowedBy 3 = .ok (.invokevirtual 63, 3) := by decide +kernel
theorem dX3_shadowedBy_6 : decode cX3_shadowedBy 6 = .ok (.ifCond .eq 7, 3) := by decide +kernel
theorem dX3_shadowedBy_9 : decode cX3_shadowedBy 9 = .ok (.iconst 0, 1) := by decide +kernel
theorem dX3_shadowedBy_10 : decode cX3_shadowedBy 10 = .ok (.goto 4, 3) := by decide +kernel
theorem dX3_shadowedBy_13 : decode cX3_shadowedBy 13 = .ok (.iconst 1, 1) := by decide +kernel
theorem dX3_shadowedBy_14 : decode cX3_shadowedBy 14 = .ok (.invokevirtual 55, 3) := by decide +kernel
theorem dX3_shadowedBy_17 : decode cX3_shadowedBy 17 = .ok (.ifCond .ne 5, 3) := by decide +kernel
theorem dX3_shadowedBy_20 : decode cX3_shadowedBy 20 = .ok (.iconst 0, 1) := by decide +kernel
theorem dX3_shadowedBy_21 : decode cX3_shadowedBy 21 = .ok (.ireturn, 1) := by decide +kernel
theorem dX3_shadowedBy_22 : decode cX3_shadowedBy 22 = .ok (.iconst 0, 1) := by decide +kernel
theorem dX3_shadowedBy_23 : decode cX3_shadowedBy 23 = .ok (.istore_n 2, 1) := by decide +kernel
theorem dX3_shadowedBy_24 : decode cX3_shadowedBy 24 = .ok (.iload_n 2, 1) := by decide +kernel
theorem dX3_shadowedBy_25 : decode cX3_shadowedBy 25 = .ok (.iload_n 1, 1) := by decide +kernel
theorem dX3_shadowedBy_26 : decode cX3_shadowedBy 26 = .ok (.if_icmp .ge 24, 3) := by decide +kernel
theorem dX3_shadowedBy_29 : decode cX3_shadowedBy 29 = .ok (.aload_n 0, 1) := by decide +kernel
theorem dX3_shadowedBy_30 : decode cX3_shadowedBy 30 = .ok (.iload_n 2, 1) := by decide +kernel
theorem dX3_shadowedBy_31 : decode cX3_shadowedBy 31 = .ok (.iload_n 1, 1) := by decide +kernel
theorem dX3_shadowedBy_32 : decode cX3_shadowedBy 32 = .ok (.invokevirtual 94, 3) := by decide +kernel
theorem dX3_shadowedBy_35 : decode cX3_shadowedBy 35 = .ok (.aload_n 0, 1) := by decide +kernel
theorem dX3_shadowedBy_36 : decode cX3_shadowedBy 36 = .ok (.iload_n 1, 1) := by decide +kernel
theorem dX3_shadowedBy_37 : decode cX3_shadowedBy 37 = .ok (.iload_n 1, 1) := by decide +kernel
theorem dX3_shadowedBy_38 : decode cX3_shadowedBy 38 = .ok (.invokevirtual 94, 3) := by decide +kernel
theorem dX3_shadowedBy_41 : decode cX3_shadowedBy 41 = .ok (.if_icmp .ge 9, 3) := by decide +kernel
theorem dX3_shadowedBy_44 : decode cX3_shadowedBy 44 = .ok (.iinc 2 1, 3) := by decide +kernel
theorem dX3_shadowedBy_47 : decode cX3_shadowedBy 47 = .ok (.goto (-23), 3) := by decide +kernel
theorem dX3_shadowedBy_50 : decode cX3_shadowedBy 50 = .ok (.aload_n 0, 1) := by decide +kernel
theorem dX3_shadowedBy_51 : decode cX3_shadowedBy 51 = .ok (.iload_n 2, 1) := by decide +kernel
theorem dX3_shadowedBy_52 : decode cX3_shadowedBy 52 = .ok (.iload_n 1, 1) := by decide +kernel
theorem dX3_shadowedBy_53 : decode cX3_shadowedBy 53 = .ok (.if_icmp .ne 7, 3) := by decide +kernel
theorem dX3_shadowedBy_56 : decode cX3_shadowedBy 56 = .ok (.iconst 2, 1) := by decide +kernel
theorem dX3_shadowedBy_57 : decode cX3_shadowedBy 57 = .ok (.goto 4, 3) := by decide +kernel
theorem dX3_shadowedBy_60 : decode cX3_shadowedBy 60 = .ok (.iconst 0, 1) := by decide +kernel
theorem dX3_shadowedBy_61 : decode cX3_shadowedBy 61 = .ok (.invokevirtual 55, 3) := by decide +kernel
theorem dX3_shadowedBy_64 : decode cX3_shadowedBy 64 = .ok (.ifCond .eq 7, 3) := by decide +kernel
theorem dX3_shadowedBy_67 : decode cX3_shadowedBy 67 = .ok (.iload_n 2, 1) := by decide +kernel
theorem dX3_shadowedBy_68 : decode cX3_shadowedBy 68 = .ok (.goto 4, 3) := by decide +kernel
theorem dX3_shadowedBy_71 : decode cX3_shadowedBy 71 = .ok (.iconst 0, 1) := by decide +kernel
theorem dX3_shadowedBy_72 : decode cX3_shadowedBy 72 = .ok (.ireturn, 1) := by decide +kernel
set_option maxRecDepth 20000 in
theorem ggX3_isNeedless_X3_permittedOf : GoodIn wsX3_isNeedless wsX3_permittedOf := goodIn_r _ [5, 6, 7, 8, 9, 4, 10, 11, 12, 13, 14, 15, 16, 17, 18, 19, 20, 21, 22, 23, 24, 25, 26, 27, 28] (by decide +kernel) (by decide +kernel)
set_option maxRecDepth 20000 in
theorem gX3_isNeedless_X3_permittedOf : GoodIn wsX3_isNeedless (wsV RX3 44 RX3 yX3_permittedOf wsX3_permittedOf) := goodIn_app (goodIn_of _ (by decide +kernel)) ggX3_isNeedless_X3_permittedOf
theorem dX3_isNeedless_0 : decode cX3_isNeedless 0 = .ok (.iconst 0, 1) := by decide +kernel
theorem dX3_isNeedless_1 : decode cX3_isNeedless 1 = .ok (.istore_n 2, 1) := by decide +kernel
theorem dX3_isNeedless_2 : decode cX3_isNeedless 2 = .ok (.iload_n 2, 1) := by decide +kernel
theorem dX3_isNeedless_3 : decode cX3_isNeedless 3 = .ok (.sipush 128, 3) := by decide +kernel
theorem dX3_isNeedless_6 : decode cX3_isNeedless 6 = .ok (.if_icmp .ge 36, 3) := by decide +kernel
theorem dX3_isNeedless_9 : decode cX3_isNeedless 9 = .ok (.aload_n 0, 1) := by decide +kernel
theorem dX3_isNeedless_10 : decode cX3_isNeedless 10 = .ok (.iload_n 2, 1) := by decide +kernel
theorem dX3_isNeedless_11 : decode cX3_isNeedless 11 = .ok (.iconst 4, 1) := by decide +kernel
theorem dX3_isNeedless_12 : decode cX3_isNeedless 12 = .ok (.idiv, 1) := by decide +kernel
theorem dX3_isNeedless_13 : decode cX3_isNeedless 13 = .ok (.iload_n 2, 1) := by decide +kernel
theorem dX3_isNeedless_14 : decode cX3_isNeedless 14 = .ok (.iconst 4, 1) := by decide +kernel
theorem dX3_isNeedless_15 : decode cX3_isNeedless 15 = .ok (.irem, 1) := by decide +kernel
theorem dX3_isNeedless_16 : decode cX3_isNeedless 16 = .ok (.iconst (-1), 1) := by decide +kernel
theorem dX3_isNeedless_17 : decode cX3_isNeedless 17 = .ok (.invokevirtual 44, 3) := by decide +kernel
theorem dX3_isNeedless_20 : decode cX3_isNeedless 20 = .ok (.aload_n 0, 1) := by decide +kernel
theorem dX3_isNeedless_21 : decode cX3_isNeedless 21 = .ok (.iload_n 2, 1) := by decide +kernel
theorem dX3_isNeedless_22 : decode cX3_isNeedless 22 = .ok (.iconst 4, 1) := by decide +kernel
theorem dX3_isNeedless_23 : decode cX3_isNeedless 23 = .ok (.idiv, 1) := by decide +kernel
theorem dX3_isNeedless_24 : decode cX3_isNeedless 24 = .ok (.iload_n 2, 1) := by decide +kernel
theorem dX3_isNeedless_25 : decode cX3_isNeedless 25 = .ok (.iconst 4, 1) := by decide +kernel
theorem dX3_isNeedless_26 : decode cX3_isNeedless 26 = .ok (.irem, 1) := by decide +kernel
theorem dX3_isNeedless_27 : decode cX3_isNeedless 27 = .ok (.iload_n 1, 1) := by decide +kernel
theorem dX3_isNeedless_28 : decode cX3_isNeedless 28 = .ok (.invokevirtual 44, 3) := by decide +kernel
theorem dX3_isNeedless_31 : decode cX3_isNeedless 31 = .ok (.if_icmp .eq 5, 3) := by decide +kernel
theorem dX3_isNeedless_34 : decode cX3_isNeedless 34 = .ok (.iconst 0, 1) := by decide +kernel
theorem dX3_isNeedless_35 : decode cX3_isNeedless 35 = .ok (.ireturn, 1) := by decide +kernel
theorem dX3_isNeedless_36 : decode cX3_isNeedless 36 = .ok (.iinc 2 1, 3) := by decide +kernel
theorem dX3_isNeedless_39 : decode cX3_isNeedless 39 = .ok (.goto (-37), 3) := by decide +kernel
theorem dX3_isNeedless_42 : decode cX3_isNeedless 42 = .ok (.iconst 1, 1) := by decide +kernel
theorem dX3_isNeedless_43 : decode cX3_isNeedless 43 = .ok (.ireturn, 1) := by decide +kernel
set_option maxRecDepth 20000 in
theorem ggX3_isRedundant_X3_isPlace : GoodIn wsX3_isRedundant wsX3_isPlace := goodIn_r _ [5, 6, 7, 8, 4, 9, 32, 33, 34, 35, 36, 37, 38, 39, 40, 41] (by decide +kernel) (by decide +kernel)
set_option maxRecDepth 20000 in
theorem gX3_isRedundant_X3_isPlace : GoodIn wsX3_isRedundant (wsV RX3 63 RX3 yX3_isPlace wsX3_isPlace) := goodIn_app (goodIn_of _ (by decide +kernel)) ggX3_isRedundant_X3_isPlace
set_option maxRecDepth 20000 in
theorem ggX3_isRedundant_X3_holds : GoodIn wsX3_isRedundant wsX3_holds := goodIn_r _ [13, 14, 32, 33, 34, 35, 36, 37, 38, 39, 40, 41] (by decide +kernel) (by decide +kernel)
set_option maxRecDepth 20000 in
theorem gX3_isRedundant_X3_holds : GoodIn wsX3_isRedundant (wsV RX3 55 RX3 yX3_holds wsX3_holds) := goodIn_app (goodIn_of _ (by decide +kernel)) ggX3_isRedundant_X3_holds
set_option maxRecDepth 20000 in
theorem ggX3_isRedundant_X3_isNeedless : GoodIn wsX3_isRedundant wsX3_isNeedless := goodIn_r _ [18, 19, 20, 21, 4, 22, 6, 23, 24, 25, 26, 27, 28, 29, 30, 31, 7, 8, 9, 32, 33, 34, 35, 36, 37, 38, 39, 40, 41] (by decide +kernel) (by decide +kernel)
set_option maxRecDepth 20000 in
theorem gX3_isRedundant_X3_isNeedless : GoodIn wsX3_isRedundant (wsV RX3 97 RX3 yX3_isNeedless wsX3_isNeedless) := goodIn_app (goodIn_of _ (by decide +kernel)) ggX3_isRedundant_X3_isNeedless
theorem dX3_isRedundant_0 : decode cX3_isRedundant 0 = .ok (.aload_n 0, 1) := by decide +kernel
theorem dX3_isRedundant_1 : decode cX3_isRedundant 1 = .ok (.aload_n 0, 1) := by decide +kernel
theorem dX3_isRedundant_2 : decode cX3_isRedundant 2 = .ok (.iload_n 1, 1) := by decide +kernel
theorem dX3_isRedundant_3 : decode cX3_isRedundant 3 = .ok (.invokevirtual 63, 3) := by decide +kernel
theorem dX3_isRedundant_6 : decode cX3_isRedundant 6 = .ok (.ifCond .eq 7, 3) := by decide +kernel
theorem dX3_isRedundant_9 : decode cX3_isRedundant 9 = .ok (.iconst 0, 1) := by decide +kernel
theorem dX3_isRedundant_10 : decode cX3_isRedundant 10 = .ok (.goto 4, 3) := by decide +kernel
theorem dX3_isRedundant_13 : decode cX3_isRedundant 13 = .ok (.iconst 1, 1) := by decide +kernel
theorem dX3_isRedundant_14 : decode cX3_isRedundant 14 = .ok (.invokevirtual 55, 3) := by decide +kernel
theorem dX3_isRedundant_17 : decode cX3_isRedundant 17 = .ok (.ifCond .eq 15, 3) := by decide +kernel
theorem dX3_isRedundant_20 : decode cX3_isRedundant 20 = .ok (.aload_n 0, 1) := by decide +kernel
theorem dX3_isRedundant_21 : decode cX3_isRedundant 21 = .ok (.iload_n 1, 1) := by decide +kernel
theorem dX3_isRedundant_22 : decode cX3_isRedundant 22 = .ok (.invokevirtual 97, 3) := by decide +kernel
theorem dX3_isRedundant_25 : decode cX3_isRedundant 25 = .ok (.ifCond .eq 7, 3) := by decide +kernel
theorem dX3_isRedundant_28 : decode cX3_isRedundant 28 = .ok (.iconst 1, 1) := by decide +kernel
theorem dX3_isRedundant_29 : decode cX3_isRedundant 29 = .ok (.goto 4, 3) := by decide +kernel
theorem dX3_isRedundant_32 : decode cX3_isRedundant 32 = .ok (.iconst 0, 1) := by decide +kernel
theorem dX3_isRedundant_33 : decode cX3_isRedundant 33 = .ok (.ireturn, 1) := by decide +kernel
set_option maxRecDepth 20000 in
theorem ggX3_permitted_X3_permittedOf : GoodIn wsX3_permitted wsX3_permittedOf := goodIn_r _ [6, 7, 8, 9, 10, 5, 11, 12, 13, 14, 15, 16, 17, 18, 19, 23, 24, 25, 26, 27, 28, 29, 30, 31, 32] (by decide +kernel) (by decide +kernel)
set_option maxRecDepth 20000 in
theorem gX3_permitted_X3_permittedOf : GoodIn wsX3_permitted (wsV RX3 44 RX3 yX3_permittedOf wsX3_permittedOf) := goodIn_app (goodIn_of _ (by decide +kernel)) ggX3_permitted_X3_permittedOf
set_option maxRecDepth 20000 in
theorem ggX3_permitted_X3_many : GoodIn wsX3_permitted wsX3_many := goodIn_r _ [22] (by decide +kernel) (by decide +kernel)
set_option maxRecDepth 20000 in
theorem gX3_permitted_X3_many : GoodIn wsX3_permitted (va_wsS RX3 47 yX3_many wsX3_many) := goodIn_app (goodIn_of _ (by decide +kernel)) ggX3_permitted_X3_many
theorem dX3_permitted_0 : decode cX3_permitted 0 = .ok (.aload_n 0, 1) := by decide +kernel
theorem dX3_permitted_1 : decode cX3_permitted 1 = .ok (.iconst 0, 1) := by decide +kernel
theorem dX3_permitted_2 : decode cX3_permitted 2 = .ok (.putfield 25, 3) := by decide +kernel
theorem dX3_permitted_5 : decode cX3_permitted 5 = .ok (.iconst 0, 1) := by decide +kernel
theorem dX3_permitted_6 : decode cX3_permitted 6 = .ok (.istore_n 1, 1) := by decide +kernel
theorem dX3_permitted_7 : decode cX3_permitted 7 = .ok (.iconst 0, 1) := by decide +kernel
theorem dX3_permitted_8 : decode cX3_permitted 8 = .ok (.istore_n 2, 1) := by decide +kernel
theorem dX3_permitted_9 : decode cX3_permitted 9 = .ok (.iload_n 2, 1) := by decide +kernel
theorem dX3_permitted_10 : decode cX3_permitted 10 = .ok (.sipush 128, 3) := by decide +kernel
theorem dX3_permitted_13 : decode cX3_permitted 13 = .ok (.if_icmp .ge 26, 3) := by decide +kernel
theorem dX3_permitted_16 : decode cX3_permitted 16 = .ok (.iload_n 1, 1) := by decide +kernel
theorem dX3_permitted_17 : decode cX3_permitted 17 = .ok (.aload_n 0, 1) := by decide +kernel
theorem dX3_permitted_18 : decode cX3_permitted 18 = .ok (.iload_n 2, 1) := by decide +kernel
theorem dX3_permitted_19 : decode cX3_permitted 19 = .ok (.iconst 4, 1) := by decide +kernel
theorem dX3_permitted_20 : decode cX3_permitted 20 = .ok (.idiv, 1) := by decide +kernel
theorem dX3_permitted_21 : decode cX3_permitted 21 = .ok (.iload_n 2, 1) := by decide +kernel
theorem dX3_permitted_22 : decode cX3_permitted 22 = .ok (.iconst 4, 1) := by decide +kernel
theorem dX3_permitted_23 : decode cX3_permitted 23 = .ok (.irem, 1) := by decide +kernel
theorem dX3_permitted_24 : decode cX3_permitted 24 = .ok (.iconst (-1), 1) := by decide +kernel
theorem dX3_permitted_25 : decode cX3_permitted 25 = .ok (.invokevirtual 44, 3) := by decide +kernel
theorem dX3_permitted_28 : decode cX3_permitted 28 = .ok (.invokestatic 47, 3) := by decide +kernel
theorem dX3_permitted_31 : decode cX3_permitted 31 = .ok (.iadd, 1) := by decide +kernel
theorem dX3_permitted_32 : decode cX3_permitted 32 = .ok (.istore_n 1, 1) := by decide +kernel
theorem dX3_permitted_33 : decode cX3_permitted 33 = .ok (.iinc 2 1, 3) := by decide +kernel
theorem dX3_permitted_36 : decode cX3_permitted 36 = .ok (.goto (-27), 3) := by decide +kernel
theorem dX3_permitted_39 : decode cX3_permitted 39 = .ok (.iload_n 1, 1) := by decide +kernel
theorem dX3_permitted_40 : decode cX3_permitted 40 = .ok (.ireturn, 1) := by decide +kernel
set_option maxRecDepth 20000 in
theorem ggX3_areAlike_X3_of : GoodIn wsX3_areAlike wsX3_of := goodIn_r _ [5, 6, 7, 8, 9, 10, 11, 12, 13, 14, 15, 16] (by decide +kernel) (by decide +kernel)
set_option maxRecDepth 20000 in
theorem gX3_areAlike_X3_of : GoodIn wsX3_areAlike (wsV RX3 36 RX3 yX3_of wsX3_of) := goodIn_app (goodIn_of _ (by decide +kernel)) ggX3_areAlike_X3_of
theorem dX3_areAlike_0 : decode cX3_areAlike 0 = .ok (.aload_n 0, 1) := by decide +kernel
theorem dX3_areAlike_1 : decode cX3_areAlike 1 = .ok (.iload_n 1, 1) := by decide +kernel
theorem dX3_areAlike_2 : decode cX3_areAlike 2 = .ok (.iload_n 3, 1) := by decide +kernel
theorem dX3_areAlike_3 : decode cX3_areAlike 3 = .ok (.invokevirtual 36, 3) := by decide +kernel
theorem dX3_areAlike_6 : decode cX3_areAlike 6 = .ok (.aload_n 0, 1) := by decide +kernel
theorem dX3_areAlike_7 : decode cX3_areAlike 7 = .ok (.iload_n 2, 1) := by decide +kernel
theorem dX3_areAlike_8 : decode cX3_areAlike 8 = .ok (.iload_n 3, 1) := by decide +kernel
theorem dX3_areAlike_9 : decode cX3_areAlike 9 = .ok (.invokevirtual 36, 3) := by decide +kernel
theorem dX3_areAlike_12 : decode cX3_areAlike 12 = .ok (.if_icmp .ne 31, 3) := by decide +kernel
theorem dX3_areAlike_15 : decode cX3_areAlike 15 = .ok (.iload_n 3, 1) := by decide +kernel
theorem dX3_areAlike_16 : decode cX3_areAlike 16 = .ok (.iconst 4, 1) := by decide +kernel
theorem dX3_areAlike_17 : decode cX3_areAlike 17 = .ok (.if_icmp .eq 22, 3) := by decide +kernel
theorem dX3_areAlike_20 : decode cX3_areAlike 20 = .ok (.aload_n 0, 1) := by decide +kernel
theorem dX3_areAlike_21 : decode cX3_areAlike 21 = .ok (.iload_n 1, 1) := by decide +kernel
theorem dX3_areAlike_22 : decode cX3_areAlike 22 = .ok (.iload_n 3, 1) := by decide +kernel
theorem dX3_areAlike_23 : decode cX3_areAlike 23 = .ok (.iconst 1, 1) := by decide +kernel
theorem dX3_areAlike_24 : decode cX3_areAlike 24 = .ok (.iadd, 1) := by decide +kernel
theorem dX3_areAlike_25 : decode cX3_areAlike 25 = .ok (.invokevirtual 36, 3) := by decide +kernel
theorem dX3_areAlike_28 : decode cX3_areAlike 28 = .ok (.aload_n 0, 1) := by decide +kernel
theorem dX3_areAlike_29 : decode cX3_areAlike 29 = .ok (.iload_n 2, 1) := by decide +kernel
theorem dX3_areAlike_30 : decode cX3_areAlike 30 = .ok (.iload_n 3, 1) := by decide +kernel
theorem dX3_areAlike_31 : decode cX3_areAlike 31 = .ok (.iconst 1, 1) := by decide +kernel
theorem dX3_areAlike_32 : decode cX3_areAlike 32 = .ok (.iadd, 1) := by decide +kernel
theorem dX3_areAlike_33 : decode cX3_areAlike 33 = .ok (.invokevirtual 36, 3) := by decide +kernel
theorem dX3_areAlike_36 : decode cX3_areAlike 36 = .ok (.if_icmp .ne 7, 3) := by decide +kernel
theorem dX3_areAlike_39 : decode cX3_areAlike 39 = .ok (.iconst 1, 1) := by decide +kernel
theorem dX3_areAlike_40 : decode cX3_areAlike 40 = .ok (.goto 4, 3) := by decide +kernel
theorem dX3_areAlike_43 : decode cX3_areAlike 43 = .ok (.iconst 0, 1) := by decide +kernel
theorem dX3_areAlike_44 : decode cX3_areAlike 44 = .ok (.ireturn, 1) := by decide +kernel
set_option maxRecDepth 20000 in
theorem ggX3_areOne_X3_of : GoodIn wsX3_areOne wsX3_of := goodIn_r _ [5, 6, 7, 8, 9, 10, 11, 12, 13, 14, 15, 16] (by decide +kernel) (by decide +kernel)
set_option maxRecDepth 20000 in
theorem gX3_areOne_X3_of : GoodIn wsX3_areOne (wsV RX3 36 RX3 yX3_of wsX3_of) := goodIn_app (goodIn_of _ (by decide +kernel)) ggX3_areOne_X3_of
theorem dX3_areOne_0 : decode cX3_areOne 0 = .ok (.iload_n 3, 1) := by decide +kernel
theorem dX3_areOne_1 : decode cX3_areOne 1 = .ok (.iconst 4, 1) := by decide +kernel
theorem dX3_areOne_2 : decode cX3_areOne 2 = .ok (.if_icmp .eq 41, 3) := by decide +kernel
theorem dX3_areOne_5 : decode cX3_areOne 5 = .ok (.aload_n 0, 1) := by decide +kernel
theorem dX3_areOne_6 : decode cX3_areOne 6 = .ok (.iload_n 1, 1) := by decide +kernel
theorem dX3_areOne_7 : decode cX3_areOne 7 = .ok (.iload_n 3, 1) := by decide +kernel
theorem dX3_areOne_8 : decode cX3_areOne 8 = .ok (.invokevirtual 36, 3) := by decide +kernel
theorem dX3_areOne_11 : decode cX3_areOne 11 = .ok (.aload_n 0, 1) := by decide +kernel
theorem dX3_areOne_12 : decode cX3_areOne 12 = .ok (.iload_n 2, 1) := by decide +kernel
theorem dX3_areOne_13 : decode cX3_areOne 13 = .ok (.iload_n 3, 1) := by decide +kernel
theorem dX3_areOne_14 : decode cX3_areOne 14 = .ok (.iconst 1, 1) := by decide +kernel
theorem dX3_areOne_15 : decode cX3_areOne 15 = .ok (.iadd, 1) := by decide +kernel
theorem dX3_areOne_16 : decode cX3_areOne 16 = .ok (.invokevirtual 36, 3) := by decide +kernel
theorem dX3_areOne_19 : decode cX3_areOne 19 = .ok (.iconst 1, 1) := by decide +kernel
theorem dX3_areOne_20 : decode cX3_areOne 20 = .ok (.iadd, 1) := by decide +kernel
theorem dX3_areOne_21 : decode cX3_areOne 21 = .ok (.if_icmp .gt 26, 3) := by decide +kernel
theorem dX3_areOne_24 : decode cX3_areOne 24 = .ok (.aload_n 0, 1) := by decide +kernel
theorem dX3_areOne_25 : decode cX3_areOne 25 = .ok (.iload_n 2, 1) := by decide +kernel
theorem dX3_areOne_26 : decode cX3_areOne 26 = .ok (.iload_n 3, 1) := by decide +kernel
theorem dX3_areOne_27 : decode cX3_areOne 27 = .ok (.invokevirtual 36, 3) := by decide +kernel
theorem dX3_areOne_30 : decode cX3_areOne 30 = .ok (.aload_n 0, 1) := by decide +kernel
