theorem dX3_areOne_31 : decode cX3_areOne 31 = .ok (.iload_n 1, 1) := by decide +kernel
theorem dX3_areOne_32 : decode cX3_areOne 32 = .ok (.iload_n 3, 1) := by decide +kernel
theorem dX3_areOne_33 : decode cX3_areOne 33 = .ok (.iconst 1, 1) := by decide +kernel
theorem dX3_areOne_34 : decode cX3_areOne 34 = .ok (.iadd, 1) := by decide +kernel
theorem dX3_areOne_35 : decode cX3_areOne 35 = .ok (.invokevirtual 36, 3) := by decide +kernel
theorem dX3_areOne_38 : decode cX3_areOne 38 = .ok (.iconst 1, 1) := by decide +kernel
theorem dX3_areOne_39 : decode cX3_areOne 39 = .ok (.iadd, 1) := by decide +kernel
theorem dX3_areOne_40 : decode cX3_areOne 40 = .ok (.if_icmp .gt 7, 3) := by decide +kernel
theorem dX3_areOne_43 : decode cX3_areOne 43 = .ok (.iconst 1, 1) := by decide +kernel
theorem dX3_areOne_44 : decode cX3_areOne 44 = .ok (.goto 4, 3) := by decide +kernel
theorem dX3_areOne_47 : decode cX3_areOne 47 = .ok (.iconst 0, 1) := by decide +kernel
theorem dX3_areOne_48 : decode cX3_areOne 48 = .ok (.ireturn, 1) := by decide +kernel
set_option maxRecDepth 20000 in
theorem ggX3_isMergeable_X3_of : GoodIn wsX3_isMergeable wsX3_of := goodIn_r _ [5, 6, 15, 16, 17, 18, 19, 20, 21, 22, 23, 24] (by decide +kernel) (by decide +kernel)
set_option maxRecDepth 20000 in
theorem gX3_isMergeable_X3_of : GoodIn wsX3_isMergeable (wsV RX3 36 RX3 yX3_of wsX3_of) := goodIn_app (goodIn_of _ (by decide +kernel)) ggX3_isMergeable_X3_of
set_option maxRecDepth 20000 in
theorem ggX3_isMergeable_X3_areAlike : GoodIn wsX3_isMergeable wsX3_areAlike := goodIn_r _ [10, 1, 2, 3, 4, 5, 6, 15, 16, 17, 18, 19, 20, 21, 22, 23, 24] (by decide +kernel) (by decide +kernel)
set_option maxRecDepth 20000 in
theorem gX3_isMergeable_X3_areAlike : GoodIn wsX3_isMergeable (wsV RX3 100 RX3 yX3_areAlike wsX3_areAlike) := goodIn_app (goodIn_of _ (by decide +kernel)) ggX3_isMergeable_X3_areAlike
set_option maxRecDepth 20000 in
theorem ggX3_isMergeable_X3_areOne : GoodIn wsX3_isMergeable wsX3_areOne := goodIn_r _ [14, 1, 2, 3, 4, 5, 6, 15, 16, 17, 18, 19, 20, 21, 22, 23, 24] (by decide +kernel) (by decide +kernel)
set_option maxRecDepth 20000 in
theorem gX3_isMergeable_X3_areOne : GoodIn wsX3_isMergeable (wsV RX3 103 RX3 yX3_areOne wsX3_areOne) := goodIn_app (goodIn_of _ (by decide +kernel)) ggX3_isMergeable_X3_areOne
theorem dX3_isMergeable_0 : decode cX3_isMergeable 0 = .ok (.iconst 0, 1) := by decide +kernel
theorem dX3_isMergeable_1 : decode cX3_isMergeable 1 = .ok (.istore_n 2, 1) := by decide +kernel
theorem dX3_isMergeable_2 : decode cX3_isMergeable 2 = .ok (.aload_n 0, 1) := by decide +kernel
theorem dX3_isMergeable_3 : decode cX3_isMergeable 3 = .ok (.iload_n 1, 1) := by decide +kernel
theorem dX3_isMergeable_4 : decode cX3_isMergeable 4 = .ok (.iconst 5, 1) := by decide +kernel
theorem dX3_isMergeable_5 : decode cX3_isMergeable 5 = .ok (.invokevirtual 36, 3) := by decide +kernel
theorem dX3_isMergeable_8 : decode cX3_isMergeable 8 = .ok (.aload_n 0, 1) := by decide +kernel
theorem dX3_isMergeable_9 : decode cX3_isMergeable 9 = .ok (.iload_n 1, 1) := by decide +kernel
theorem dX3_isMergeable_10 : decode cX3_isMergeable 10 = .ok (.iconst 1, 1) := by decide +kernel
theorem dX3_isMergeable_11 : decode cX3_isMergeable 11 = .ok (.iadd, 1) := by decide +kernel
theorem dX3_isMergeable_12 : decode cX3_isMergeable 12 = .ok (.iconst 5, 1) := by decide +kernel
theorem dX3_isMergeable_13 : decode cX3_isMergeable 13 = .ok (.invokevirtual 36, 3) := by decide +kernel
theorem dX3_isMergeable_16 : decode cX3_isMergeable 16 = .ok (.if_icmp .ne 7, 3) := by decide +kernel
theorem dX3_isMergeable_19 : decode cX3_isMergeable 19 = .ok (.iconst 1, 1) := by decide +kernel
theorem dX3_isMergeable_20 : decode cX3_isMergeable 20 = .ok (.goto 4, 3) := by decide +kernel
theorem dX3_isMergeable_23 : decode cX3_isMergeable 23 = .ok (.iconst 0, 1) := by decide +kernel
theorem dX3_isMergeable_24 : decode cX3_isMergeable 24 = .ok (.istore_n 3, 1) := by decide +kernel
theorem dX3_isMergeable_25 : decode cX3_isMergeable 25 = .ok (.iconst 0, 1) := by decide +kernel
theorem dX3_isMergeable_26 : decode cX3_isMergeable 26 = .ok (.istore 4, 2) := by decide +kernel
theorem dX3_isMergeable_28 : decode cX3_isMergeable 28 = .ok (.iload 4, 2) := by decide +kernel
theorem dX3_isMergeable_30 : decode cX3_isMergeable 30 = .ok (.iconst 4, 1) := by decide +kernel
theorem dX3_isMergeable_31 : decode cX3_isMergeable 31 = .ok (.if_icmp .gt 62, 3) := by decide +kernel
theorem dX3_isMergeable_34 : decode cX3_isMergeable 34 = .ok (.aload_n 0, 1) := by decide +kernel
theorem dX3_isMergeable_35 : decode cX3_isMergeable 35 = .ok (.iload_n 1, 1) := by decide +kernel
theorem dX3_isMergeable_36 : decode cX3_isMergeable 36 = .ok (.iload_n 1, 1) := by decide +kernel
theorem dX3_isMergeable_37 : decode cX3_isMergeable 37 = .ok (.iconst 1, 1) := by decide +kernel
theorem dX3_isMergeable_38 : decode cX3_isMergeable 38 = .ok (.iadd, 1) := by decide +kernel
theorem dX3_isMergeable_39 : decode cX3_isMergeable 39 = .ok (.iload 4, 2) := by decide +kernel
theorem dX3_isMergeable_41 : decode cX3_isMergeable 41 = .ok (.invokevirtual 100, 3) := by decide +kernel
theorem dX3_isMergeable_44 : decode cX3_isMergeable 44 = .ok (.istore 5, 2) := by decide +kernel
theorem dX3_isMergeable_46 : decode cX3_isMergeable 46 = .ok (.iload_n 2, 1) := by decide +kernel
theorem dX3_isMergeable_47 : decode cX3_isMergeable 47 = .ok (.iload 5, 2) := by decide +kernel
theorem dX3_isMergeable_49 : decode cX3_isMergeable 49 = .ok (.ifCond .eq 7, 3) := by decide +kernel
theorem dX3_isMergeable_52 : decode cX3_isMergeable 52 = .ok (.iconst 0, 1) := by decide +kernel
theorem dX3_isMergeable_53 : decode cX3_isMergeable 53 = .ok (.goto 4, 3) := by decide +kernel
theorem dX3_isMergeable_56 : decode cX3_isMergeable 56 = .ok (.iconst 1, 1) := by decide +kernel
theorem dX3_isMergeable_57 : decode cX3_isMergeable 57 = .ok (.iadd, 1) := by decide +kernel
theorem dX3_isMergeable_58 : decode cX3_isMergeable 58 = .ok (.istore_n 2, 1) := by decide +kernel
theorem dX3_isMergeable_59 : decode cX3_isMergeable 59 = .ok (.iload_n 3, 1) := by decide +kernel
theorem dX3_isMergeable_60 : decode cX3_isMergeable 60 = .ok (.ifCond .eq 25, 3) := by decide +kernel
theorem dX3_isMergeable_63 : decode cX3_isMergeable 63 = .ok (.iload 5, 2) := by decide +kernel
theorem dX3_isMergeable_65 : decode cX3_isMergeable 65 = .ok (.ifCond .ne 16, 3) := by decide +kernel
theorem dX3_isMergeable_68 : decode cX3_isMergeable 68 = .ok (.aload_n 0, 1) := by decide +kernel
theorem dX3_isMergeable_69 : decode cX3_isMergeable 69 = .ok (.iload_n 1, 1) := by decide +kernel
theorem dX3_isMergeable_70 : decode cX3_isMergeable 70 = .ok (.iload_n 1, 1) := by decide +kernel
theorem dX3_isMergeable_71 : decode cX3_isMergeable 71 = .ok (.iconst 1, 1) := by decide +kernel
theorem dX3_isMergeable_72 : decode cX3_isMergeable 72 = .ok (.iadd, 1) := by decide +kernel
theorem dX3_isMergeable_73 : decode cX3_isMergeable 73 = .ok (.iload 4, 2) := by decide +kernel
theorem dX3_isMergeable_75 : decode cX3_isMergeable 75 = .ok (.invokevirtual 103, 3) := by decide +kernel
theorem dX3_isMergeable_78 : decode cX3_isMergeable 78 = .ok (.ifCond .eq 7, 3) := by decide +kernel
theorem dX3_isMergeable_81 : decode cX3_isMergeable 81 = .ok (.iconst 1, 1) := by decide +kernel
theorem dX3_isMergeable_82 : decode cX3_isMergeable 82 = .ok (.goto 4, 3) := by decide +kernel
theorem dX3_isMergeable_85 : decode cX3_isMergeable 85 = .ok (.iconst 0, 1) := by decide +kernel
theorem dX3_isMergeable_86 : decode cX3_isMergeable 86 = .ok (.istore_n 3, 1) := by decide +kernel
theorem dX3_isMergeable_87 : decode cX3_isMergeable 87 = .ok (.iinc 4 2, 3) := by decide +kernel
theorem dX3_isMergeable_90 : decode cX3_isMergeable 90 = .ok (.goto (-62), 3) := by decide +kernel
theorem dX3_isMergeable_93 : decode cX3_isMergeable 93 = .ok (.iload_n 3, 1) := by decide +kernel
theorem dX3_isMergeable_94 : decode cX3_isMergeable 94 = .ok (.ifCond .eq 12, 3) := by decide +kernel
theorem dX3_isMergeable_97 : decode cX3_isMergeable 97 = .ok (.iload_n 2, 1) := by decide +kernel
theorem dX3_isMergeable_98 : decode cX3_isMergeable 98 = .ok (.iconst 2, 1) := by decide +kernel
theorem dX3_isMergeable_99 : decode cX3_isMergeable 99 = .ok (.if_icmp .ge 7, 3) := by decide +kernel
theorem dX3_isMergeable_102 : decode cX3_isMergeable 102 = .ok (.iconst 1, 1) := by decide +kernel
theorem dX3_isMergeable_103 : decode cX3_isMergeable 103 = .ok (.goto 4, 3) := by decide +kernel
theorem dX3_isMergeable_106 : decode cX3_isMergeable 106 = .ok (.iconst 0, 1) := by decide +kernel
theorem dX3_isMergeable_107 : decode cX3_isMergeable 107 = .ok (.ireturn, 1) := by decide +kernel
set_option maxRecDepth 20000 in
theorem ggX3_canMerge_X3_in : GoodIn wsX3_canMerge wsX3_in := goodIn_r _ [5] (by decide +kernel) (by decide +kernel)
set_option maxRecDepth 20000 in
theorem gX3_canMerge_X3_in : GoodIn wsX3_canMerge (va_wsS RX3 32 yX3_in wsX3_in) := goodIn_app (goodIn_of _ (by decide +kernel)) ggX3_canMerge_X3_in
set_option maxRecDepth 20000 in
theorem ggX3_canMerge_X3_holds : GoodIn wsX3_canMerge wsX3_holds := goodIn_r _ [9, 10, 28, 29, 30, 31, 32, 33, 34, 35, 36, 37] (by decide +kernel) (by decide +kernel)
set_option maxRecDepth 20000 in
theorem gX3_canMerge_X3_holds : GoodIn wsX3_canMerge (wsV RX3 55 RX3 yX3_holds wsX3_holds) := goodIn_app (goodIn_of _ (by decide +kernel)) ggX3_canMerge_X3_holds
set_option maxRecDepth 20000 in
theorem ggX3_canMerge_X3_isMergeable : GoodIn wsX3_canMerge wsX3_isMergeable := goodIn_r _ [14, 15, 16, 17, 4, 18, 19, 20, 21, 22, 23, 24, 25, 26, 27, 28, 29, 30, 31, 32, 33, 34, 35, 36, 37] (by decide +kernel) (by decide +kernel)
set_option maxRecDepth 20000 in
theorem gX3_canMerge_X3_isMergeable : GoodIn wsX3_canMerge (wsV RX3 106 RX3 yX3_isMergeable wsX3_isMergeable) := goodIn_app (goodIn_of _ (by decide +kernel)) ggX3_canMerge_X3_isMergeable
theorem dX3_canMerge_0 : decode cX3_canMerge 0 = .ok (.aload_n 0, 1) := by decide +kernel
theorem dX3_canMerge_1 : decode cX3_canMerge 1 = .ok (.iload_n 1, 1) := by decide +kernel
theorem dX3_canMerge_2 : decode cX3_canMerge 2 = .ok (.iconst 0, 1) := by decide +kernel
theorem dX3_canMerge_3 : decode cX3_canMerge 3 = .ok (.aload_n 0, 1) := by decide +kernel
theorem dX3_canMerge_4 : decode cX3_canMerge 4 = .ok (.getfield 29, 3) := by decide +kernel
theorem dX3_canMerge_7 : decode cX3_canMerge 7 = .ok (.iconst 2, 1) := by decide +kernel
theorem dX3_canMerge_8 : decode cX3_canMerge 8 = .ok (.isub, 1) := by decide +kernel
theorem dX3_canMerge_9 : decode cX3_canMerge 9 = .ok (.invokestatic 32, 3) := by decide +kernel
theorem dX3_canMerge_12 : decode cX3_canMerge 12 = .ok (.ifCond .eq 7, 3) := by decide +kernel
theorem dX3_canMerge_15 : decode cX3_canMerge 15 = .ok (.iconst 0, 1) := by decide +kernel
theorem dX3_canMerge_16 : decode cX3_canMerge 16 = .ok (.goto 4, 3) := by decide +kernel
theorem dX3_canMerge_19 : decode cX3_canMerge 19 = .ok (.iconst 1, 1) := by decide +kernel
theorem dX3_canMerge_20 : decode cX3_canMerge 20 = .ok (.invokevirtual 55, 3) := by decide +kernel
theorem dX3_canMerge_23 : decode cX3_canMerge 23 = .ok (.ifCond .eq 15, 3) := by decide +kernel
theorem dX3_canMerge_26 : decode cX3_canMerge 26 = .ok (.aload_n 0, 1) := by decide +kernel
theorem dX3_canMerge_27 : decode cX3_canMerge 27 = .ok (.iload_n 1, 1) := by decide +kernel
theorem dX3_canMerge_28 : decode cX3_canMerge 28 = .ok (.invokevirtual 106, 3) := by decide +kernel
theorem dX3_canMerge_31 : decode cX3_canMerge 31 = .ok (.ifCond .eq 7, 3) := by decide +kernel
theorem dX3_canMerge_34 : decode cX3_canMerge 34 = .ok (.iconst 1, 1) := by decide +kernel
theorem dX3_canMerge_35 : decode cX3_canMerge 35 = .ok (.goto 4, 3) := by decide +kernel
theorem dX3_canMerge_38 : decode cX3_canMerge 38 = .ok (.iconst 0, 1) := by decide +kernel
theorem dX3_canMerge_39 : decode cX3_canMerge 39 = .ok (.ireturn, 1) := by decide +kernel
set_option maxRecDepth 20000 in
theorem ggX3_merges_X3_takesOut : GoodIn wsX3_merges wsX3_takesOut := goodIn_r _ [7, 2, 8, 1, 9, 10, 11, 6, 12, 13, 14, 15, 16, 17, 18, 19, 20, 21, 22] (by decide +kernel) (by decide +kernel)
set_option maxRecDepth 20000 in
theorem gX3_merges_X3_takesOut : GoodIn wsX3_merges (wsV RX3 69 RX3 yX3_takesOut wsX3_takesOut) := goodIn_app (goodIn_of _ (by decide +kernel)) ggX3_merges_X3_takesOut
theorem dX3_merges_0 : decode cX3_merges 0 = .ok (.aload_n 0, 1) := by decide +kernel
theorem dX3_merges_1 : decode cX3_merges 1 = .ok (.iload_n 1, 1) := by decide +kernel
theorem dX3_merges_2 : decode cX3_merges 2 = .ok (.iconst 1, 1) := by decide +kernel
theorem dX3_merges_3 : decode cX3_merges 3 = .ok (.iadd, 1) := by decide +kernel
theorem dX3_merges_4 : decode cX3_merges 4 = .ok (.invokevirtual 69, 3) := by decide +kernel
theorem dX3_merges_7 : decode cX3_merges 7 = .ok (.bipush 7, 2) := by decide +kernel
theorem dX3_merges_9 : decode cX3_merges 9 = .ok (.iload_n 1, 1) := by decide +kernel
theorem dX3_merges_10 : decode cX3_merges 10 = .ok (.imul, 1) := by decide +kernel
theorem dX3_merges_11 : decode cX3_merges 11 = .ok (.istore_n 2, 1) := by decide +kernel
theorem dX3_merges_12 : decode cX3_merges 12 = .ok (.aload_n 0, 1) := by decide +kernel
theorem dX3_merges_13 : decode cX3_merges 13 = .ok (.getfield 7, 3) := by decide +kernel
theorem dX3_merges_16 : decode cX3_merges 16 = .ok (.iload_n 2, 1) := by decide +kernel
theorem dX3_merges_17 : decode cX3_merges 17 = .ok (.iconst 0, 1) := by decide +kernel
theorem dX3_merges_18 : decode cX3_merges 18 = .ok (.iadd, 1) := by decide +kernel
theorem dX3_merges_19 : decode cX3_merges 19 = .ok (.aload_n 0, 1) := by decide +kernel
theorem dX3_merges_20 : decode cX3_merges 20 = .ok (.getfield 16, 3) := by decide +kernel
theorem dX3_merges_23 : decode cX3_merges 23 = .ok (.iconst 0, 1) := by decide +kernel
theorem dX3_merges_24 : decode cX3_merges 24 = .ok (.iaload, 1) := by decide +kernel
theorem dX3_merges_25 : decode cX3_merges 25 = .ok (.aload_n 0, 1) := by decide +kernel
theorem dX3_merges_26 : decode cX3_merges 26 = .ok (.getfield 7, 3) := by decide +kernel
theorem dX3_merges_29 : decode cX3_merges 29 = .ok (.iload_n 2, 1) := by decide +kernel
theorem dX3_merges_30 : decode cX3_merges 30 = .ok (.iconst 0, 1) := by decide +kernel
theorem dX3_merges_31 : decode cX3_merges 31 = .ok (.iadd, 1) := by decide +kernel
theorem dX3_merges_32 : decode cX3_merges 32 = .ok (.iaload, 1) := by decide +kernel
theorem dX3_merges_33 : decode cX3_merges 33 = .ok (.if_icmp .ge 12, 3) := by decide +kernel
theorem dX3_merges_36 : decode cX3_merges 36 = .ok (.aload_n 0, 1) := by decide +kernel
theorem dX3_merges_37 : decode cX3_merges 37 = .ok (.getfield 16, 3) := by decide +kernel
theorem dX3_merges_40 : decode cX3_merges 40 = .ok (.iconst 0, 1) := by decide +kernel
theorem dX3_merges_41 : decode cX3_merges 41 = .ok (.iaload, 1) := by decide +kernel
theorem dX3_merges_42 : decode cX3_merges 42 = .ok (.goto 11, 3) := by decide +kernel
theorem dX3_merges_45 : decode cX3_merges 45 = .ok (.aload_n 0, 1) := by decide +kernel
theorem dX3_merges_46 : decode cX3_merges 46 = .ok (.getfield 7, 3) := by decide +kernel
theorem dX3_merges_49 : decode cX3_merges 49 = .ok (.iload_n 2, 1) := by decide +kernel
theorem dX3_merges_50 : decode cX3_merges 50 = .ok (.iconst 0, 1) := by decide +kernel
theorem dX3_merges_51 : decode cX3_merges 51 = .ok (.iadd, 1) := by decide +kernel
theorem dX3_merges_52 : decode cX3_merges 52 = .ok (.iaload, 1) := by decide +kernel
theorem dX3_merges_53 : decode cX3_merges 53 = .ok (.iastore, 1) := by decide +kernel
theorem dX3_merges_54 : decode cX3_merges 54 = .ok (.aload_n 0, 1) := by decide +kernel
theorem dX3_merges_55 : decode cX3_merges 55 = .ok (.getfield 7, 3) := by decide +kernel
theorem dX3_merges_58 : decode cX3_merges 58 = .ok (.iload_n 2, 1) := by decide +kernel
theorem dX3_merges_59 : decode cX3_merges 59 = .ok (.iconst 1, 1) := by decide +kernel
theorem dX3_merges_60 : decode cX3_merges 60 = .ok (.iadd, 1) := by decide +kernel
theorem dX3_merges_61 : decode cX3_merges 61 = .ok (.aload_n 0, 1) := by decide +kernel
theorem dX3_merges_62 : decode cX3_merges 62 = .ok (.getfield 16, 3) := by decide +kernel
theorem dX3_merges_65 : decode cX3_merges 65 = .ok (.iconst 1, 1) := by decide +kernel
theorem dX3_merges_66 : decode cX3_merges 66 = .ok (.iaload, 1) := by decide +kernel
theorem dX3_merges_67 : decode cX3_merges 67 = .ok (.aload_n 0, 1) := by decide +kernel
theorem dX3_merges_68 : decode cX3_merges 68 = .ok (.getfield 7, 3) := by decide +kernel
theorem dX3_merges_71 : decode cX3_merges 71 = .ok (.iload_n 2, 1) := by decide +kernel
theorem dX3_merges_72 : decode cX3_merges 72 = .ok (.iconst 1, 1) := by decide +kernel
theorem dX3_merges_73 : decode cX3_merges 73 = .ok (.iadd, 1) := by decide +kernel
theorem dX3_merges_74 : decode cX3_merges 74 = .ok (.iaload, 1) := by decide +kernel
theorem dX3_merges_75 : decode cX3_merges 75 = .ok (.if_icmp .le 12, 3) := by decide +kernel
theorem dX3_merges_78 : decode cX3_merges 78 = .ok (.aload_n 0, 1) := by decide +kernel
theorem dX3_merges_79 : decode cX3_merges 79 = .ok (.getfield 16, 3) := by decide +kernel
theorem dX3_merges_82 : decode cX3_merges 82 = .ok (.iconst 1, 1) := by decide +kernel
theorem dX3_merges_83 : decode cX3_merges 83 = .ok (.iaload, 1) := by decide +kernel
theorem dX3_merges_84 : decode cX3_merges 84 = .ok (.goto 11, 3) := by decide +kernel
theorem dX3_merges_87 : decode cX3_merges 87 = .ok (.aload_n 0, 1) := by decide +kernel
theorem dX3_merges_88 : decode cX3_merges 88 = .ok (.getfield 7, 3) := by decide +kernel
theorem dX3_merges_91 : decode cX3_merges 91 = .ok (.iload_n 2, 1) := by decide +kernel
theorem dX3_merges_92 : decode cX3_merges 92 = .ok (.iconst 1, 1) := by decide +kernel
theorem dX3_merges_93 : decode cX3_merges 93 = .ok (.iadd, 1) := by decide +kernel
theorem dX3_merges_94 : decode cX3_merges 94 = .ok (.iaload, 1) := by decide +kernel
theorem dX3_merges_95 : decode cX3_merges 95 = .ok (.iastore, 1) := by decide +kernel
theorem dX3_merges_96 : decode cX3_merges 96 = .ok (.aload_n 0, 1) := by decide +kernel
theorem dX3_merges_97 : decode cX3_merges 97 = .ok (.getfield 7, 3) := by decide +kernel
theorem dX3_merges_100 : decode cX3_merges 100 = .ok (.iload_n 2, 1) := by decide +kernel
theorem dX3_merges_101 : decode cX3_merges 101 = .ok (.iconst 2, 1) := by decide +kernel
theorem dX3_merges_102 : decode cX3_merges 102 = .ok (.iadd, 1) := by decide +kernel
theorem dX3_merges_103 : decode cX3_merges 103 = .ok (.aload_n 0, 1) := by decide +kernel
theorem dX3_merges_104 : decode cX3_merges 104 = .ok (.getfield 16, 3) := by decide +kernel
theorem dX3_merges_107 : decode cX3_merges 107 = .ok (.iconst 2, 1) := by decide +kernel
theorem dX3_merges_108 : decode cX3_merges 108 = .ok (.iaload, 1) := by decide +kernel
theorem dX3_merges_109 : decode cX3_merges 109 = .ok (.aload_n 0, 1) := by decide +kernel
theorem dX3_merges_110 : decode cX3_merges 110 = .ok (.getfield 7, 3) := by decide +kernel
theorem dX3_merges_113 : decode cX3_merges 113 = .ok (.iload_n 2, 1) := by decide +kernel
theorem dX3_merges_114 : decode cX3_merges 114 = .ok (.iconst 2, 1) := by decide +kernel
theorem dX3_merges_115 : decode cX3_merges 115 = .ok (.iadd, 1) := by decide +kernel
theorem dX3_merges_116 : decode cX3_merges 116 = .ok (.iaload, 1) := by decide +kernel
theorem dX3_merges_117 : decode cX3_merges 117 = .ok (.if_icmp .ge 12, 3) := by decide +kernel
theorem dX3_merges_120 : decode cX3_merges 120 = .ok (.aload_n 0, 1) := by decide +kernel
theorem dX3_merges_121 : decode cX3_merges 121 = .ok (.getfield 16, 3) := by decide +kernel
theorem dX3_merges_124 : decode cX3_merges 124 = .ok (.iconst 2, 1) := by decide +kernel
theorem dX3_merges_125 : decode cX3_merges 125 = .ok (.iaload, 1) := by decide +kernel
theorem dX3_merges_126 : decode cX3_merges 126 = .ok (.goto 11, 3) := by decide +kernel
theorem dX3_merges_129 : decode cX3_merges 129 = .ok (.aload_n 0, 1) := by decide +kernel
theorem dX3_merges_130 : decode cX3_merges 130 = .ok (.getfield 7, 3) := by decide +kernel
theorem dX3_merges_133 : decode cX3_merges 133 = .ok (.iload_n 2, 1) := by decide +kernel
theorem dX3_merges_134 : decode cX3_merges 134 = .ok (.iconst 2, 1) := by decide +kernel
theorem dX3_merges_135 : decode cX3_merges 135 = .ok (.iadd, 1) := by decide +kernel
theorem dX3_merges_136 : decode cX3_merges 136 = .ok (.iaload, 1) := by decide +kernel
theorem dX3_merges_137 : decode cX3_merges 137 = .ok (.iastore, 1) := by decide +kernel
theorem dX3_merges_138 : decode cX3_merges 138 = .ok (.aload_n 0, 1) := by decide +kernel
theorem dX3_merges_139 : decode cX3_merges 139 = .ok (.getfield 7, 3) := by decide +kernel
theorem dX3_merges_142 : decode cX3_merges 142 = .ok (.iload_n 2, 1) := by decide +kernel
theorem dX3_merges_143 : decode cX3_merges 143 = .ok (.iconst 3, 1) := by decide +kernel
theorem dX3_merges_144 : decode cX3_merges 144 = .ok (.iadd, 1) := by decide +kernel
theorem dX3_merges_145 : decode cX3_merges 145 = .ok (.aload_n 0, 1) := by decide +kernel
theorem dX3_merges_146 : decode cX3_merges 146 = .ok (.getfield 16, 3) := by decide +kernel
theorem dX3_merges_149 : decode cX3_merges 149 = .ok (.iconst 3, 1) := by decide +kernel
theorem dX3_merges_150 : decode cX3_merges 150 = .ok (.iaload, 1) := by decide +kernel
theorem dX3_merges_151 : decode cX3_merges 151 = .ok (.aload_n 0, 1) := by decide +kernel
theorem dX3_merges_152 : decode cX3_merges 152 = .ok (.getfield 7, 3) := by decide +kernel
theorem dX3_merges_155 : decode cX3_merges 155 = .ok (.iload_n 2, 1) := by decide +kernel
theorem dX3_merges_156 : decode cX3_merges 156 = .ok (.iconst 3, 1) := by decide +kernel
theorem dX3_merges_157 : decode cX3_merges 157 = .ok (.iadd, 1) := by decide +kernel
theorem dX3_merges_158 : decode cX3_merges 158 = .ok (.iaload, 1) := by decide +kernel
theorem dX3_merges_159 : decode cX3_merges 159 = .ok (.if_icmp .le 12, 3) := by decide +kernel
theorem dX3_merges_162 : decode cX3_merges 162 = .ok (.aload_n 0, 1) := by decide +kernel
theorem dX3_merges_163 : decode cX3_merges 163 = .ok (.getfield 16, 3) := by decide +kernel
theorem dX3_merges_166 : decode cX3_merges 166 = .ok (.iconst 3, 1) := by decide +kernel
theorem dX3_merges_167 : decode cX3_merges 167 = .ok (.iaload, 1) := by decide +kernel
theorem dX3_merges_168 : decode cX3_merges 168 = .ok (.goto 11, 3) := by decide +kernel
theorem dX3_merges_171 : decode cX3_merges 171 = .ok (.aload_n 0, 1) := by decide +kernel
theorem dX3_merges_172 : decode cX3_merges 172 = .ok (.getfield 7, 3) := by decide +kernel
theorem dX3_merges_175 : decode cX3_merges 175 = .ok (.iload_n 2, 1) := by decide +kernel
theorem dX3_merges_176 : decode cX3_merges 176 = .ok (.iconst 3, 1) := by decide +kernel
theorem dX3_merges_177 : decode cX3_merges 177 = .ok (.iadd, 1) := by decide +kernel
theorem dX3_merges_178 : decode cX3_merges 178 = .ok (.iaload, 1) := by decide +kernel
theorem dX3_merges_179 : decode cX3_merges 179 = .ok (.iastore, 1) := by decide +kernel
theorem dX3_merges_180 : decode cX3_merges 180 = .ok (.aload_n 0, 1) := by decide +kernel
theorem dX3_merges_181 : decode cX3_merges 181 = .ok (.getfield 7, 3) := by decide +kernel
theorem dX3_merges_184 : decode cX3_merges 184 = .ok (.iload_n 2, 1) := by decide +kernel
theorem dX3_merges_185 : decode cX3_merges 185 = .ok (.iconst 4, 1) := by decide +kernel
theorem dX3_merges_186 : decode cX3_merges 186 = .ok (.iadd, 1) := by decide +kernel
theorem dX3_merges_187 : decode cX3_merges 187 = .ok (.dup2, 1) := by decide +kernel
theorem dX3_merges_188 : decode cX3_merges 188 = .ok (.iaload, 1) := by decide +kernel
theorem dX3_merges_189 : decode cX3_merges 189 = .ok (.aload_n 0, 1) := by decide +kernel
theorem dX3_merges_190 : decode cX3_merges 190 = .ok (.getfield 16, 3) := by decide +kernel
theorem dX3_merges_193 : decode cX3_merges 193 = .ok (.iconst 4, 1) := by decide +kernel
theorem dX3_merges_194 : decode cX3_merges 194 = .ok (.iaload, 1) := by decide +kernel
theorem dX3_merges_195 : decode cX3_merges 195 = .ok (.ior, 1) := by decide +kernel
theorem dX3_merges_196 : decode cX3_merges 196 = .ok (.iastore, 1) := by decide +kernel
theorem dX3_merges_197 : decode cX3_merges 197 = .ok (.aload_n 0, 1) := by decide +kernel
theorem dX3_merges_198 : decode cX3_merges 198 = .ok (.getfield 7, 3) := by decide +kernel
theorem dX3_merges_201 : decode cX3_merges 201 = .ok (.iload_n 2, 1) := by decide +kernel
theorem dX3_merges_202 : decode cX3_merges 202 = .ok (.bipush 6, 2) := by decide +kernel
theorem dX3_merges_204 : decode cX3_merges 204 = .ok (.iadd, 1) := by decide +kernel
theorem dX3_merges_205 : decode cX3_merges 205 = .ok (.dup2, 1) := by decide +kernel
theorem dX3_merges_206 : decode cX3_merges 206 = .ok (.iaload, 1) := by decide +kernel
theorem dX3_merges_207 : decode cX3_merges 207 = .ok (.aload_n 0, 1) := by decide +kernel
theorem dX3_merges_208 : decode cX3_merges 208 = .ok (.getfield 16, 3) := by decide +kernel
theorem dX3_merges_211 : decode cX3_merges 211 = .ok (.bipush 6, 2) := by decide +kernel
theorem dX3_merges_213 : decode cX3_merges 213 = .ok (.iaload, 1) := by decide +kernel
theorem dX3_merges_214 : decode cX3_merges 214 = .ok (.iadd, 1) := by decide +kernel
theorem dX3_merges_215 : decode cX3_merges 215 = .ok (.iastore, 1) := by decide +kernel
theorem dX3_merges_216 : decode cX3_merges 216 = .ok (.return_, 1) := by decide +kernel
set_option maxRecDepth 20000 in
theorem ggX3_isShortened_X3_isNeedless : GoodIn wsX3_isShortened wsX3_isNeedless := goodIn_r _ [6, 7, 8, 9, 5, 10, 1, 11, 12, 13, 14, 15, 16, 17, 18, 19, 20, 21, 22, 44, 45, 46, 47, 48, 49, 50, 51, 52, 53] (by decide +kernel) (by decide +kernel)
set_option maxRecDepth 20000 in
theorem gX3_isShortened_X3_isNeedless : GoodIn wsX3_isShortened (wsV RX3 97 RX3 yX3_isNeedless wsX3_isNeedless) := goodIn_app (goodIn_of _ (by decide +kernel)) ggX3_isShortened_X3_isNeedless
set_option maxRecDepth 20000 in
theorem ggX3_isShortened_X3_takesOut : GoodIn wsX3_isShortened wsX3_takesOut := goodIn_r _ [26, 27, 1, 19, 15, 16, 17, 5, 18, 44, 45, 46, 47, 48, 49, 50, 51, 52, 53] (by decide +kernel) (by decide +kernel)
set_option maxRecDepth 20000 in
theorem gX3_isShortened_X3_takesOut : GoodIn wsX3_isShortened (wsV RX3 69 RX3 yX3_takesOut wsX3_takesOut) := goodIn_app (goodIn_of _ (by decide +kernel)) ggX3_isShortened_X3_takesOut
set_option maxRecDepth 20000 in
theorem ggX3_isShortened_X3_isMergeable : GoodIn wsX3_isShortened wsX3_isMergeable := goodIn_r _ [31, 15, 16, 17, 5, 18, 19, 32, 33, 34, 35, 36, 37, 38, 39, 44, 45, 46, 47, 48, 49, 50, 51, 52, 53] (by decide +kernel) (by decide +kernel)
set_option maxRecDepth 20000 in
theorem gX3_isShortened_X3_isMergeable : GoodIn wsX3_isShortened (wsV RX3 106 RX3 yX3_isMergeable wsX3_isMergeable) := goodIn_app (goodIn_of _ (by decide +kernel)) ggX3_isShortened_X3_isMergeable
set_option maxRecDepth 20000 in
theorem ggX3_isShortened_X3_merges : GoodIn wsX3_isShortened wsX3_merges := goodIn_r _ [43, 19, 27, 23, 24, 25, 5, 26, 1, 15, 16, 17, 18, 44, 45, 46, 47, 48, 49, 50, 51, 52, 53] (by decide +kernel) (by decide +kernel)
set_option maxRecDepth 20000 in
theorem gX3_isShortened_X3_merges : GoodIn wsX3_isShortened (wsV RX3 109 RX3 yX3_merges wsX3_merges) := goodIn_app (goodIn_of _ (by decide +kernel)) ggX3_isShortened_X3_merges
theorem dX3_isShortened_0 : decode cX3_isShortened 0 = .ok (.aload_n 0, 1) := by decide +kernel
theorem dX3_isShortened_1 : decode cX3_isShortened 1 = .ok (.getfield 29, 3) := by decide +kernel
theorem dX3_isShortened_4 : decode cX3_isShortened 4 = .ok (.iconst 1, 1) := by decide +kernel
theorem dX3_isShortened_5 : decode cX3_isShortened 5 = .ok (.isub, 1) := by decide +kernel
theorem dX3_isShortened_6 : decode cX3_isShortened 6 = .ok (.istore_n 1, 1) := by decide +kernel
theorem dX3_isShortened_7 : decode cX3_isShortened 7 = .ok (.iload_n 1, 1) := by decide +kernel
theorem dX3_isShortened_8 : decode cX3_isShortened 8 = .ok (.ifCond .lt 24, 3) := by decide +kernel
theorem dX3_isShortened_11 : decode cX3_isShortened 11 = .ok (.aload_n 0, 1) := by decide +kernel
theorem dX3_isShortened_12 : decode cX3_isShortened 12 = .ok (.iload_n 1, 1) := by decide +kernel
theorem dX3_isShortened_13 : decode cX3_isShortened 13 = .ok (.invokevirtual 97, 3) := by decide +kernel
theorem dX3_isShortened_16 : decode cX3_isShortened 16 = .ok (.ifCond .eq 10, 3) := by decide +kernel
theorem dX3_isShortened_19 : decode cX3_isShortened 19 = .ok (.aload_n 0, 1) := by decide +kernel
theorem dX3_isShortened_20 : decode cX3_isShortened 20 = .ok (.iload_n 1, 1) := by decide +kernel
theorem dX3_isShortened_21 : decode cX3_isShortened 21 = .ok (.invokevirtual 69, 3) := by decide +kernel
theorem dX3_isShortened_24 : decode cX3_isShortened 24 = .ok (.iconst 1, 1) := by decide +kernel
theorem dX3_isShortened_25 : decode cX3_isShortened 25 = .ok (.ireturn, 1) := by decide +kernel
theorem dX3_isShortened_26 : decode cX3_isShortened 26 = .ok (.iinc 1 (-1), 3) := by decide +kernel
theorem dX3_isShortened_29 : decode cX3_isShortened 29 = .ok (.goto (-22), 3) := by decide +kernel
theorem dX3_isShortened_32 : decode cX3_isShortened 32 = .ok (.iconst 0, 1) := by decide +kernel
theorem dX3_isShortened_33 : decode cX3_isShortened 33 = .ok (.istore_n 1, 1) := by decide +kernel
theorem dX3_isShortened_34 : decode cX3_isShortened 34 = .ok (.iload_n 1, 1) := by decide +kernel
theorem dX3_isShortened_35 : decode cX3_isShortened 35 = .ok (.aload_n 0, 1) := by decide +kernel
theorem dX3_isShortened_36 : decode cX3_isShortened 36 = .ok (.getfield 29, 3) := by decide +kernel
theorem dX3_isShortened_39 : decode cX3_isShortened 39 = .ok (.iconst 1, 1) := by decide +kernel
theorem dX3_isShortened_40 : decode cX3_isShortened 40 = .ok (.isub, 1) := by decide +kernel
theorem dX3_isShortened_41 : decode cX3_isShortened 41 = .ok (.if_icmp .ge 24, 3) := by decide +kernel
theorem dX3_isShortened_44 : decode cX3_isShortened 44 = .ok (.aload_n 0, 1) := by decide +kernel
theorem dX3_isShortened_45 : decode cX3_isShortened 45 = .ok (.iload_n 1, 1) := by decide +kernel
theorem dX3_isShortened_46 : decode cX3_isShortened 46 = .ok (.invokevirtual 106, 3) := by decide +kernel
theorem dX3_isShortened_49 : decode cX3_isShortened 49 = .ok (.ifCond .eq 10, 3) := by decide +kernel
theorem dX3_isShortened_52 : decode cX3_isShortened 52 = .ok (.aload_n 0, 1) := by decide +kernel
theorem dX3_isShortened_53 : decode cX3_isShortened 53 = .ok (.iload_n 1, 1) := by decide +kernel
theorem dX3_isShortened_54 : decode cX3_isShortened 54 = .ok (.invokevirtual 109, 3) := by decide +kernel
theorem dX3_isShortened_57 : decode cX3_isShortened 57 = .ok (.iconst 1, 1) := by decide +kernel
theorem dX3_isShortened_58 : decode cX3_isShortened 58 = .ok (.ireturn, 1) := by decide +kernel
theorem dX3_isShortened_59 : decode cX3_isShortened 59 = .ok (.iinc 1 1, 3) := by decide +kernel
theorem dX3_isShortened_62 : decode cX3_isShortened 62 = .ok (.goto (-28), 3) := by decide +kernel
theorem dX3_isShortened_65 : decode cX3_isShortened 65 = .ok (.iconst 0, 1) := by decide +kernel
theorem dX3_isShortened_66 : decode cX3_isShortened 66 = .ok (.ireturn, 1) := by decide +kernel
set_option maxRecDepth 20000 in
theorem ggX3_shorten_X3_isShortened : GoodIn wsX3_shorten wsX3_isShortened := goodIn_r _ [6, 7, 8, 9, 10, 5, 11, 12, 13, 14, 15, 16, 17, 18, 19, 20, 21, 22, 23, 24, 25, 26, 27, 28, 29, 30, 31, 32, 33, 34, 35, 36, 37, 38, 39, 40, 41, 42, 43, 44, 45, 46, 47, 48, 49, 50, 51, 52, 53, 54, 55, 56, 57, 58] (by decide +kernel) (by decide +kernel)
set_option maxRecDepth 20000 in
theorem gX3_shorten_X3_isShortened : GoodIn wsX3_shorten (wsV RX3 112 RX3 yX3_isShortened wsX3_isShortened) := goodIn_app (goodIn_of _ (by decide +kernel)) ggX3_shorten_X3_isShortened
theorem dX3_shorten_0 : decode cX3_shorten 0 = .ok (.aload_n 0, 1) := by decide +kernel
theorem dX3_shorten_1 : decode cX3_shorten 1 = .ok (.iconst 0, 1) := by decide +kernel
theorem dX3_shorten_2 : decode cX3_shorten 2 = .ok (.putfield 25, 3) := by decide +kernel
theorem dX3_shorten_5 : decode cX3_shorten 5 = .ok (.iconst 0, 1) := by decide +kernel
theorem dX3_shorten_6 : decode cX3_shorten 6 = .ok (.istore_n 1, 1) := by decide +kernel
theorem dX3_shorten_7 : decode cX3_shorten 7 = .ok (.aload_n 0, 1) := by decide +kernel
theorem dX3_shorten_8 : decode cX3_shorten 8 = .ok (.invokevirtual 112, 3) := by decide +kernel
theorem dX3_shorten_11 : decode cX3_shorten 11 = .ok (.ifCond .eq 9, 3) := by decide +kernel
theorem dX3_shorten_14 : decode cX3_shorten 14 = .ok (.iinc 1 1, 3) := by decide +kernel
theorem dX3_shorten_17 : decode cX3_shorten 17 = .ok (.goto (-10), 3) := by decide +kernel
theorem dX3_shorten_20 : decode cX3_shorten 20 = .ok (.iload_n 1, 1) := by decide +kernel
theorem dX3_shorten_21 : decode cX3_shorten 21 = .ok (.ireturn, 1) := by decide +kernel
set_option maxRecDepth 20000 in
theorem ggX3_sortByHits_X3_of : GoodIn wsX3_sortByHits wsX3_of := goodIn_r _ [7, 8, 32, 33, 34, 35, 36, 37, 38, 39, 40, 41] (by decide +kernel) (by decide +kernel)
set_option maxRecDepth 20000 in
theorem gX3_sortByHits_X3_of : GoodIn wsX3_sortByHits (wsV RX3 36 RX3 yX3_of wsX3_of) := goodIn_app (goodIn_of _ (by decide +kernel)) ggX3_sortByHits_X3_of
set_option maxRecDepth 20000 in
theorem ggX3_sortByHits_X3_common : GoodIn wsX3_sortByHits wsX3_common := goodIn_r _ [12, 13, 14, 15, 6, 16, 3, 4, 5, 7, 8, 17, 18, 19, 20, 21, 22, 32, 33, 34, 35, 36, 37, 38, 39, 40, 41] (by decide +kernel) (by decide +kernel)
set_option maxRecDepth 20000 in
theorem gX3_sortByHits_X3_common : GoodIn wsX3_sortByHits (wsV RX3 94 RX3 yX3_common wsX3_common) := goodIn_app (goodIn_of _ (by decide +kernel)) ggX3_sortByHits_X3_common
set_option maxRecDepth 20000 in
theorem ggX3_sortByHits_X3_takesOut : GoodIn wsX3_sortByHits wsX3_takesOut := goodIn_r _ [26, 27, 2, 8, 3, 4, 5, 6, 7, 32, 33, 34, 35, 36, 37, 38, 39, 40, 41] (by decide +kernel) (by decide +kernel)
set_option maxRecDepth 20000 in
theorem gX3_sortByHits_X3_takesOut : GoodIn wsX3_sortByHits (wsV RX3 69 RX3 yX3_takesOut wsX3_takesOut) := goodIn_app (goodIn_of _ (by decide +kernel)) ggX3_sortByHits_X3_takesOut
set_option maxRecDepth 20000 in
theorem ggX3_sortByHits_X3_putsIn : GoodIn wsX3_sortByHits wsX3_putsIn := goodIn_r _ [31, 2, 8, 27, 32, 33, 34, 35, 36, 37, 38, 39, 40, 41] (by decide +kernel) (by decide +kernel)
set_option maxRecDepth 20000 in
theorem gX3_sortByHits_X3_putsIn : GoodIn wsX3_sortByHits (wsV RX3 59 RX3 yX3_putsIn wsX3_putsIn) := goodIn_app (goodIn_of _ (by decide +kernel)) ggX3_sortByHits_X3_putsIn
theorem dX3_sortByHits_0 : decode cX3_sortByHits 0 = .ok (.aload_n 0, 1) := by decide +kernel
theorem dX3_sortByHits_1 : decode cX3_sortByHits 1 = .ok (.iconst 0, 1) := by decide +kernel
theorem dX3_sortByHits_2 : decode cX3_sortByHits 2 = .ok (.putfield 25, 3) := by decide +kernel
theorem dX3_sortByHits_5 : decode cX3_sortByHits 5 = .ok (.iconst 0, 1) := by decide +kernel
theorem dX3_sortByHits_6 : decode cX3_sortByHits 6 = .ok (.istore_n 1, 1) := by decide +kernel
theorem dX3_sortByHits_7 : decode cX3_sortByHits 7 = .ok (.iconst (-1), 1) := by decide +kernel
theorem dX3_sortByHits_8 : decode cX3_sortByHits 8 = .ok (.istore_n 2, 1) := by decide +kernel
theorem dX3_sortByHits_9 : decode cX3_sortByHits 9 = .ok (.iload_n 1, 1) := by decide +kernel
theorem dX3_sortByHits_10 : decode cX3_sortByHits 10 = .ok (.iload_n 2, 1) := by decide +kernel
theorem dX3_sortByHits_11 : decode cX3_sortByHits 11 = .ok (.if_icmp .le 100, 3) := by decide +kernel
theorem dX3_sortByHits_14 : decode cX3_sortByHits 14 = .ok (.iload_n 1, 1) := by decide +kernel
theorem dX3_sortByHits_15 : decode cX3_sortByHits 15 = .ok (.istore_n 2, 1) := by decide +kernel
theorem dX3_sortByHits_16 : decode cX3_sortByHits 16 = .ok (.iconst 0, 1) := by decide +kernel
theorem dX3_sortByHits_17 : decode cX3_sortByHits 17 = .ok (.istore_n 3, 1) := by decide +kernel
theorem dX3_sortByHits_18 : decode cX3_sortByHits 18 = .ok (.iload_n 3, 1) := by decide +kernel
theorem dX3_sortByHits_19 : decode cX3_sortByHits 19 = .ok (.aload_n 0, 1) := by decide +kernel
theorem dX3_sortByHits_20 : decode cX3_sortByHits 20 = .ok (.getfield 29, 3) := by decide +kernel
theorem dX3_sortByHits_23 : decode cX3_sortByHits 23 = .ok (.iconst 1, 1) := by decide +kernel
theorem dX3_sortByHits_24 : decode cX3_sortByHits 24 = .ok (.isub, 1) := by decide +kernel
theorem dX3_sortByHits_25 : decode cX3_sortByHits 25 = .ok (.if_icmp .ge 83, 3) := by decide +kernel
theorem dX3_sortByHits_28 : decode cX3_sortByHits 28 = .ok (.aload_n 0, 1) := by decide +kernel
theorem dX3_sortByHits_29 : decode cX3_sortByHits 29 = .ok (.iload_n 3, 1) := by decide +kernel
theorem dX3_sortByHits_30 : decode cX3_sortByHits 30 = .ok (.iconst 5, 1) := by decide +kernel
theorem dX3_sortByHits_31 : decode cX3_sortByHits 31 = .ok (.invokevirtual 36, 3) := by decide +kernel
theorem dX3_sortByHits_34 : decode cX3_sortByHits 34 = .ok (.aload_n 0, 1) := by decide +kernel
theorem dX3_sortByHits_35 : decode cX3_sortByHits 35 = .ok (.iload_n 3, 1) := by decide +kernel
theorem dX3_sortByHits_36 : decode cX3_sortByHits 36 = .ok (.iconst 1, 1) := by decide +kernel
theorem dX3_sortByHits_37 : decode cX3_sortByHits 37 = .ok (.iadd, 1) := by decide +kernel
theorem dX3_sortByHits_38 : decode cX3_sortByHits 38 = .ok (.iconst 5, 1) := by decide +kernel
theorem dX3_sortByHits_39 : decode cX3_sortByHits 39 = .ok (.invokevirtual 36, 3) := by decide +kernel
theorem dX3_sortByHits_42 : decode cX3_sortByHits 42 = .ok (.if_icmp .eq 14, 3) := by decide +kernel
theorem dX3_sortByHits_45 : decode cX3_sortByHits 45 = .ok (.aload_n 0, 1) := by decide +kernel
theorem dX3_sortByHits_46 : decode cX3_sortByHits 46 = .ok (.iload_n 3, 1) := by decide +kernel
theorem dX3_sortByHits_47 : decode cX3_sortByHits 47 = .ok (.iload_n 3, 1) := by decide +kernel
theorem dX3_sortByHits_48 : decode cX3_sortByHits 48 = .ok (.iconst 1, 1) := by decide +kernel
theorem dX3_sortByHits_49 : decode cX3_sortByHits 49 = .ok (.iadd, 1) := by decide +kernel
theorem dX3_sortByHits_50 : decode cX3_sortByHits 50 = .ok (.invokevirtual 94, 3) := by decide +kernel
theorem dX3_sortByHits_53 : decode cX3_sortByHits 53 = .ok (.ifCond .ne 7, 3) := by decide +kernel
theorem dX3_sortByHits_56 : decode cX3_sortByHits 56 = .ok (.iconst 1, 1) := by decide +kernel
theorem dX3_sortByHits_57 : decode cX3_sortByHits 57 = .ok (.goto 4, 3) := by decide +kernel
theorem dX3_sortByHits_60 : decode cX3_sortByHits 60 = .ok (.iconst 0, 1) := by decide +kernel
theorem dX3_sortByHits_61 : decode cX3_sortByHits 61 = .ok (.istore 4, 2) := by decide +kernel
theorem dX3_sortByHits_63 : decode cX3_sortByHits 63 = .ok (.aload_n 0, 1) := by decide +kernel
theorem dX3_sortByHits_64 : decode cX3_sortByHits 64 = .ok (.iload_n 3, 1) := by decide +kernel
theorem dX3_sortByHits_65 : decode cX3_sortByHits 65 = .ok (.iconst 1, 1) := by decide +kernel
theorem dX3_sortByHits_66 : decode cX3_sortByHits 66 = .ok (.iadd, 1) := by decide +kernel
theorem dX3_sortByHits_67 : decode cX3_sortByHits 67 = .ok (.bipush 6, 2) := by decide +kernel
theorem dX3_sortByHits_69 : decode cX3_sortByHits 69 = .ok (.invokevirtual 36, 3) := by decide +kernel
theorem dX3_sortByHits_72 : decode cX3_sortByHits 72 = .ok (.aload_n 0, 1) := by decide +kernel
theorem dX3_sortByHits_73 : decode cX3_sortByHits 73 = .ok (.iload_n 3, 1) := by decide +kernel
theorem dX3_sortByHits_74 : decode cX3_sortByHits 74 = .ok (.bipush 6, 2) := by decide +kernel
theorem dX3_sortByHits_76 : decode cX3_sortByHits 76 = .ok (.invokevirtual 36, 3) := by decide +kernel
theorem dX3_sortByHits_79 : decode cX3_sortByHits 79 = .ok (.if_icmp .le 23, 3) := by decide +kernel
theorem dX3_sortByHits_82 : decode cX3_sortByHits 82 = .ok (.iload 4, 2) := by decide +kernel
theorem dX3_sortByHits_84 : decode cX3_sortByHits 84 = .ok (.ifCond .eq 18, 3) := by decide +kernel
theorem dX3_sortByHits_87 : decode cX3_sortByHits 87 = .ok (.aload_n 0, 1) := by decide +kernel
theorem dX3_sortByHits_88 : decode cX3_sortByHits 88 = .ok (.iload_n 3, 1) := by decide +kernel
theorem dX3_sortByHits_89 : decode cX3_sortByHits 89 = .ok (.invokevirtual 69, 3) := by decide +kernel
theorem dX3_sortByHits_92 : decode cX3_sortByHits 92 = .ok (.aload_n 0, 1) := by decide +kernel
theorem dX3_sortByHits_93 : decode cX3_sortByHits 93 = .ok (.iload_n 3, 1) := by decide +kernel
theorem dX3_sortByHits_94 : decode cX3_sortByHits 94 = .ok (.iconst 1, 1) := by decide +kernel
theorem dX3_sortByHits_95 : decode cX3_sortByHits 95 = .ok (.iadd, 1) := by decide +kernel
theorem dX3_sortByHits_96 : decode cX3_sortByHits 96 = .ok (.invokevirtual 59, 3) := by decide +kernel
theorem dX3_sortByHits_99 : decode cX3_sortByHits 99 = .ok (.iinc 1 1, 3) := by decide +kernel
theorem dX3_sortByHits_102 : decode cX3_sortByHits 102 = .ok (.iinc 3 1, 3) := by decide +kernel
theorem dX3_sortByHits_105 : decode cX3_sortByHits 105 = .ok (.goto (-87), 3) := by decide +kernel
theorem dX3_sortByHits_108 : decode cX3_sortByHits 108 = .ok (.goto (-99), 3) := by decide +kernel
theorem dX3_sortByHits_111 : decode cX3_sortByHits 111 = .ok (.iload_n 1, 1) := by decide +kernel
theorem dX3_sortByHits_112 : decode cX3_sortByHits 112 = .ok (.ireturn, 1) := by decide +kernel
theorem dX3_splits_0 : decode cX3_splits 0 = .ok (.iconst 0, 1) := by decide +kernel
theorem dX3_splits_1 : decode cX3_splits 1 = .ok (.istore 4, 2) := by decide +kernel
theorem dX3_splits_3 : decode cX3_splits 3 = .ok (.iload_n 1, 1) := by decide +kernel
theorem dX3_splits_4 : decode cX3_splits 4 = .ok (.istore 5, 2) := by decide +kernel
theorem dX3_splits_6 : decode cX3_splits 6 = .ok (.iload 5, 2) := by decide +kernel
theorem dX3_splits_8 : decode cX3_splits 8 = .ok (.iload_n 2, 1) := by decide +kernel
theorem dX3_splits_9 : decode cX3_splits 9 = .ok (.if_icmp .gt 73, 3) := by decide +kernel
theorem dX3_splits_12 : decode cX3_splits 12 = .ok (.iconst 1, 1) := by decide +kernel
theorem dX3_splits_13 : decode cX3_splits 13 = .ok (.istore 6, 2) := by decide +kernel
theorem dX3_splits_15 : decode cX3_splits 15 = .ok (.iload 5, 2) := by decide +kernel
theorem dX3_splits_17 : decode cX3_splits 17 = .ok (.iconst 2, 1) := by decide +kernel
theorem dX3_splits_18 : decode cX3_splits 18 = .ok (.iload 6, 2) := by decide +kernel
theorem dX3_splits_20 : decode cX3_splits 20 = .ok (.imul, 1) := by decide +kernel
theorem dX3_splits_21 : decode cX3_splits 21 = .ok (.irem, 1) := by decide +kernel
theorem dX3_splits_22 : decode cX3_splits 22 = .ok (.ifCond .ne 25, 3) := by decide +kernel
theorem dX3_splits_25 : decode cX3_splits 25 = .ok (.iload 5, 2) := by decide +kernel
theorem dX3_splits_27 : decode cX3_splits 27 = .ok (.iconst 2, 1) := by decide +kernel
theorem dX3_splits_28 : decode cX3_splits 28 = .ok (.iload 6, 2) := by decide +kernel
theorem dX3_splits_30 : decode cX3_splits 30 = .ok (.imul, 1) := by decide +kernel
theorem dX3_splits_31 : decode cX3_splits 31 = .ok (.iadd, 1) := by decide +kernel
theorem dX3_splits_32 : decode cX3_splits 32 = .ok (.iconst 1, 1) := by decide +kernel
theorem dX3_splits_33 : decode cX3_splits 33 = .ok (.isub, 1) := by decide +kernel
theorem dX3_splits_34 : decode cX3_splits 34 = .ok (.iload_n 2, 1) := by decide +kernel
theorem dX3_splits_35 : decode cX3_splits 35 = .ok (.if_icmp .gt 12, 3) := by decide +kernel
theorem dX3_splits_38 : decode cX3_splits 38 = .ok (.iload 6, 2) := by decide +kernel
theorem dX3_splits_40 : decode cX3_splits 40 = .ok (.iconst 2, 1) := by decide +kernel
theorem dX3_splits_41 : decode cX3_splits 41 = .ok (.imul, 1) := by decide +kernel
theorem dX3_splits_42 : decode cX3_splits 42 = .ok (.istore 6, 2) := by decide +kernel
theorem dX3_splits_44 : decode cX3_splits 44 = .ok (.goto (-29), 3) := by decide +kernel
theorem dX3_splits_47 : decode cX3_splits 47 = .ok (.aload_n 0, 1) := by decide +kernel
theorem dX3_splits_48 : decode cX3_splits 48 = .ok (.getfield 19, 3) := by decide +kernel
theorem dX3_splits_51 : decode cX3_splits 51 = .ok (.iload_n 3, 1) := by decide +kernel
theorem dX3_splits_52 : decode cX3_splits 52 = .ok (.iload 4, 2) := by decide +kernel
theorem dX3_splits_54 : decode cX3_splits 54 = .ok (.iadd, 1) := by decide +kernel
theorem dX3_splits_55 : decode cX3_splits 55 = .ok (.iload 5, 2) := by decide +kernel
theorem dX3_splits_57 : decode cX3_splits 57 = .ok (.iastore, 1) := by decide +kernel
theorem dX3_splits_58 : decode cX3_splits 58 = .ok (.aload_n 0, 1) := by decide +kernel
theorem dX3_splits_59 : decode cX3_splits 59 = .ok (.getfield 22, 3) := by decide +kernel
theorem dX3_splits_62 : decode cX3_splits 62 = .ok (.iload_n 3, 1) := by decide +kernel
theorem dX3_splits_63 : decode cX3_splits 63 = .ok (.iload 4, 2) := by decide +kernel
theorem dX3_splits_65 : decode cX3_splits 65 = .ok (.iadd, 1) := by decide +kernel
theorem dX3_splits_66 : decode cX3_splits 66 = .ok (.iload 6, 2) := by decide +kernel
theorem dX3_splits_68 : decode cX3_splits 68 = .ok (.iastore, 1) := by decide +kernel
theorem dX3_splits_69 : decode cX3_splits 69 = .ok (.iinc 4 1, 3) := by decide +kernel
theorem dX3_splits_72 : decode cX3_splits 72 = .ok (.iload 5, 2) := by decide +kernel
theorem dX3_splits_74 : decode cX3_splits 74 = .ok (.iload 6, 2) := by decide +kernel
theorem dX3_splits_76 : decode cX3_splits 76 = .ok (.iadd, 1) := by decide +kernel
theorem dX3_splits_77 : decode cX3_splits 77 = .ok (.istore 5, 2) := by decide +kernel
theorem dX3_splits_79 : decode cX3_splits 79 = .ok (.goto (-73), 3) := by decide +kernel
theorem dX3_splits_82 : decode cX3_splits 82 = .ok (.iload 4, 2) := by decide +kernel
theorem dX3_splits_84 : decode cX3_splits 84 = .ok (.ireturn, 1) := by decide +kernel
set_option maxRecDepth 20000 in
theorem ggX3_splitsSet_X3_splits : GoodIn wsX3_splitsSet wsX3_splits := goodIn_r _ [5, 6, 7, 8, 9, 10, 11, 12, 13, 14, 15, 16, 17] (by decide +kernel) (by decide +kernel)
set_option maxRecDepth 20000 in
theorem gX3_splitsSet_X3_splits : GoodIn wsX3_splitsSet (wsV RX3 116 RX3 yX3_splits wsX3_splits) := goodIn_app (goodIn_of _ (by decide +kernel)) ggX3_splitsSet_X3_splits
theorem dX3_splitsSet_0 : decode cX3_splitsSet 0 = .ok (.iconst 0, 1) := by decide +kernel
theorem dX3_splitsSet_1 : decode cX3_splitsSet 1 = .ok (.istore_n 2, 1) := by decide +kernel
theorem dX3_splitsSet_2 : decode cX3_splitsSet 2 = .ok (.iconst 0, 1) := by decide +kernel
theorem dX3_splitsSet_3 : decode cX3_splitsSet 3 = .ok (.istore_n 3, 1) := by decide +kernel
theorem dX3_splitsSet_4 : decode cX3_splitsSet 4 = .ok (.iload_n 3, 1) := by decide +kernel
theorem dX3_splitsSet_5 : decode cX3_splitsSet 5 = .ok (.iconst 4, 1) := by decide +kernel
theorem dX3_splitsSet_6 : decode cX3_splitsSet 6 = .ok (.if_icmp .ge 46, 3) := by decide +kernel
theorem dX3_splitsSet_9 : decode cX3_splitsSet 9 = .ok (.iload_n 3, 1) := by decide +kernel
theorem dX3_splitsSet_10 : decode cX3_splitsSet 10 = .ok (.istore 4, 2) := by decide +kernel
theorem dX3_splitsSet_12 : decode cX3_splitsSet 12 = .ok (.iload_n 1, 1) := by decide +kernel
theorem dX3_splitsSet_13 : decode cX3_splitsSet 13 = .ok (.iload 4, 2) := by decide +kernel
theorem dX3_splitsSet_15 : decode cX3_splitsSet 15 = .ok (.ishr, 1) := by decide +kernel
theorem dX3_splitsSet_16 : decode cX3_splitsSet 16 = .ok (.iconst 1, 1) := by decide +kernel
theorem dX3_splitsSet_17 : decode cX3_splitsSet 17 = .ok (.iand, 1) := by decide +kernel
theorem dX3_splitsSet_18 : decode cX3_splitsSet 18 = .ok (.iconst 1, 1) := by decide +kernel
theorem dX3_splitsSet_19 : decode cX3_splitsSet 19 = .ok (.if_icmp .ne 9, 3) := by decide +kernel
theorem dX3_splitsSet_22 : decode cX3_splitsSet 22 = .ok (.iinc 4 1, 3) := by decide +kernel
theorem dX3_splitsSet_25 : decode cX3_splitsSet 25 = .ok (.goto (-13), 3) := by decide +kernel
theorem dX3_splitsSet_28 : decode cX3_splitsSet 28 = .ok (.iload_n 2, 1) := by decide +kernel
theorem dX3_splitsSet_29 : decode cX3_splitsSet 29 = .ok (.aload_n 0, 1) := by decide +kernel
theorem dX3_splitsSet_30 : decode cX3_splitsSet 30 = .ok (.iload_n 3, 1) := by decide +kernel
theorem dX3_splitsSet_31 : decode cX3_splitsSet 31 = .ok (.iload 4, 2) := by decide +kernel
theorem dX3_splitsSet_33 : decode cX3_splitsSet 33 = .ok (.iconst 1, 1) := by decide +kernel
theorem dX3_splitsSet_34 : decode cX3_splitsSet 34 = .ok (.isub, 1) := by decide +kernel
theorem dX3_splitsSet_35 : decode cX3_splitsSet 35 = .ok (.bipush 16, 2) := by decide +kernel
theorem dX3_splitsSet_37 : decode cX3_splitsSet 37 = .ok (.iload_n 2, 1) := by decide +kernel
theorem dX3_splitsSet_38 : decode cX3_splitsSet 38 = .ok (.iadd, 1) := by decide +kernel
theorem dX3_splitsSet_39 : decode cX3_splitsSet 39 = .ok (.invokevirtual 116, 3) := by decide +kernel
theorem dX3_splitsSet_42 : decode cX3_splitsSet 42 = .ok (.iadd, 1) := by decide +kernel
theorem dX3_splitsSet_43 : decode cX3_splitsSet 43 = .ok (.istore_n 2, 1) := by decide +kernel
theorem dX3_splitsSet_44 : decode cX3_splitsSet 44 = .ok (.iload 4, 2) := by decide +kernel
theorem dX3_splitsSet_46 : decode cX3_splitsSet 46 = .ok (.iconst 1, 1) := by decide +kernel
theorem dX3_splitsSet_47 : decode cX3_splitsSet 47 = .ok (.iadd, 1) := by decide +kernel
theorem dX3_splitsSet_48 : decode cX3_splitsSet 48 = .ok (.istore_n 3, 1) := by decide +kernel
theorem dX3_splitsSet_49 : decode cX3_splitsSet 49 = .ok (.goto (-45), 3) := by decide +kernel
theorem dX3_splitsSet_52 : decode cX3_splitsSet 52 = .ok (.iload_n 2, 1) := by decide +kernel
theorem dX3_splitsSet_53 : decode cX3_splitsSet 53 = .ok (.ireturn, 1) := by decide +kernel
set_option maxRecDepth 20000 in
theorem ggX3_sourceBlocks_X3_of : GoodIn wsX3_sourceBlocks wsX3_of := goodIn_r _ [5, 6, 13, 14, 15, 16, 17, 18, 19, 20, 21, 22] (by decide +kernel) (by decide +kernel)
set_option maxRecDepth 20000 in
theorem gX3_sourceBlocks_X3_of : GoodIn wsX3_sourceBlocks (wsV RX3 36 RX3 yX3_of wsX3_of) := goodIn_app (goodIn_of _ (by decide +kernel)) ggX3_sourceBlocks_X3_of
set_option maxRecDepth 20000 in
theorem ggX3_sourceBlocks_X3_splits : GoodIn wsX3_sourceBlocks wsX3_splits := goodIn_r _ [10, 11, 12, 13, 14, 15, 16, 17, 18, 19, 20, 21, 22] (by decide +kernel) (by decide +kernel)
set_option maxRecDepth 20000 in
theorem gX3_sourceBlocks_X3_splits : GoodIn wsX3_sourceBlocks (wsV RX3 116 RX3 yX3_splits wsX3_splits) := goodIn_app (goodIn_of _ (by decide +kernel)) ggX3_sourceBlocks_X3_splits
theorem dX3_sourceBlocks_0 : decode cX3_sourceBlocks 0 = .ok (.aload_n 0, 1) := by decide +kernel
theorem dX3_sourceBlocks_1 : decode cX3_sourceBlocks 1 = .ok (.aload_n 0, 1) := by decide +kernel
theorem dX3_sourceBlocks_2 : decode cX3_sourceBlocks 2 = .ok (.iload_n 1, 1) := by decide +kernel
theorem dX3_sourceBlocks_3 : decode cX3_sourceBlocks 3 = .ok (.iconst 0, 1) := by decide +kernel
theorem dX3_sourceBlocks_4 : decode cX3_sourceBlocks 4 = .ok (.invokevirtual 36, 3) := by decide +kernel
theorem dX3_sourceBlocks_7 : decode cX3_sourceBlocks 7 = .ok (.aload_n 0, 1) := by decide +kernel
theorem dX3_sourceBlocks_8 : decode cX3_sourceBlocks 8 = .ok (.iload_n 1, 1) := by decide +kernel
theorem dX3_sourceBlocks_9 : decode cX3_sourceBlocks 9 = .ok (.iconst 1, 1) := by decide +kernel
theorem dX3_sourceBlocks_10 : decode cX3_sourceBlocks 10 = .ok (.invokevirtual 36, 3) := by decide +kernel
theorem dX3_sourceBlocks_13 : decode cX3_sourceBlocks 13 = .ok (.iconst 0, 1) := by decide +kernel
theorem dX3_sourceBlocks_14 : decode cX3_sourceBlocks 14 = .ok (.invokevirtual 116, 3) := by decide +kernel
theorem dX3_sourceBlocks_17 : decode cX3_sourceBlocks 17 = .ok (.ireturn, 1) := by decide +kernel
set_option maxRecDepth 20000 in
theorem ggX3_destinationBlocks_X3_of : GoodIn wsX3_destinationBlocks wsX3_of := goodIn_r _ [5, 6, 13, 14, 15, 16, 17, 18, 19, 20, 21, 22] (by decide +kernel) (by decide +kernel)
set_option maxRecDepth 20000 in
theorem gX3_destinationBlocks_X3_of : GoodIn wsX3_destinationBlocks (wsV RX3 36 RX3 yX3_of wsX3_of) := goodIn_app (goodIn_of _ (by decide +kernel)) ggX3_destinationBlocks_X3_of
set_option maxRecDepth 20000 in
theorem ggX3_destinationBlocks_X3_splits : GoodIn wsX3_destinationBlocks wsX3_splits := goodIn_r _ [10, 11, 12, 13, 14, 15, 16, 17, 18, 19, 20, 21, 22] (by decide +kernel) (by decide +kernel)
set_option maxRecDepth 20000 in
theorem gX3_destinationBlocks_X3_splits : GoodIn wsX3_destinationBlocks (wsV RX3 116 RX3 yX3_splits wsX3_splits) := goodIn_app (goodIn_of _ (by decide +kernel)) ggX3_destinationBlocks_X3_splits
theorem dX3_destinationBlocks_0 : decode cX3_destinationBlocks 0 = .ok (.aload_n 0, 1) := by decide +kernel
theorem dX3_destinationBlocks_1 : decode cX3_destinationBlocks 1 = .ok (.aload_n 0, 1) := by decide +kernel
theorem dX3_destinationBlocks_2 : decode cX3_destinationBlocks 2 = .ok (.iload_n 1, 1) := by decide +kernel
theorem dX3_destinationBlocks_3 : decode cX3_destinationBlocks 3 = .ok (.iconst 2, 1) := by decide +kernel
theorem dX3_destinationBlocks_4 : decode cX3_destinationBlocks 4 = .ok (.invokevirtual 36, 3) := by decide +kernel
theorem dX3_destinationBlocks_7 : decode cX3_destinationBlocks 7 = .ok (.aload_n 0, 1) := by decide +kernel
theorem dX3_destinationBlocks_8 : decode cX3_destinationBlocks 8 = .ok (.iload_n 1, 1) := by decide +kernel
theorem dX3_destinationBlocks_9 : decode cX3_destinationBlocks 9 = .ok (.iconst 3, 1) := by decide +kernel
theorem dX3_destinationBlocks_10 : decode cX3_destinationBlocks 10 = .ok (.invokevirtual 36, 3) := by decide +kernel
theorem dX3_destinationBlocks_13 : decode cX3_destinationBlocks 13 = .ok (.bipush 8, 2) := by decide +kernel
theorem dX3_destinationBlocks_15 : decode cX3_destinationBlocks 15 = .ok (.invokevirtual 116, 3) := by decide +kernel
theorem dX3_destinationBlocks_18 : decode cX3_destinationBlocks 18 = .ok (.ireturn, 1) := by decide +kernel
set_option maxRecDepth 20000 in
theorem ggX3_split_X3_sourceBlocks : GoodIn wsX3_split wsX3_sourceBlocks := goodIn_r _ [5, 6, 7, 8, 4, 9, 10, 11, 12, 13, 14, 15, 16, 25, 26, 27, 28, 29, 30, 31, 32, 33, 34] (by decide +kernel) (by decide +kernel)
set_option maxRecDepth 20000 in
theorem gX3_split_X3_sourceBlocks : GoodIn wsX3_split (wsV RX3 119 RX3 yX3_sourceBlocks wsX3_sourceBlocks) := goodIn_app (goodIn_of _ (by decide +kernel)) ggX3_split_X3_sourceBlocks
set_option maxRecDepth 20000 in
theorem ggX3_split_X3_destinationBlocks : GoodIn wsX3_split wsX3_destinationBlocks := goodIn_r _ [20, 6, 7, 8, 4, 9, 10, 11, 12, 13, 14, 15, 16, 25, 26, 27, 28, 29, 30, 31, 32, 33, 34] (by decide +kernel) (by decide +kernel)
set_option maxRecDepth 20000 in
theorem gX3_split_X3_destinationBlocks : GoodIn wsX3_split (wsV RX3 122 RX3 yX3_destinationBlocks wsX3_destinationBlocks) := goodIn_app (goodIn_of _ (by decide +kernel)) ggX3_split_X3_destinationBlocks
set_option maxRecDepth 20000 in
theorem ggX3_split_X3_of : GoodIn wsX3_split wsX3_of := goodIn_r _ [9, 10, 25, 26, 27, 28, 29, 30, 31, 32, 33, 34] (by decide +kernel) (by decide +kernel)
set_option maxRecDepth 20000 in
theorem gX3_split_X3_of : GoodIn wsX3_split (wsV RX3 36 RX3 yX3_of wsX3_of) := goodIn_app (goodIn_of _ (by decide +kernel)) ggX3_split_X3_of
set_option maxRecDepth 20000 in
theorem ggX3_split_X3_splitsSet : GoodIn wsX3_split wsX3_splitsSet := goodIn_r _ [24, 11, 12, 13, 4, 14, 15, 16, 25, 26, 27, 28, 29, 30, 31, 32, 33, 34] (by decide +kernel) (by decide +kernel)
set_option maxRecDepth 20000 in
theorem gX3_split_X3_splitsSet : GoodIn wsX3_split (wsV RX3 125 RX3 yX3_splitsSet wsX3_splitsSet) := goodIn_app (goodIn_of _ (by decide +kernel)) ggX3_split_X3_splitsSet
theorem dX3_split_0 : decode cX3_split 0 = .ok (.aload_n 0, 1) := by decide +kernel
theorem dX3_split_1 : decode cX3_split 1 = .ok (.iload_n 1, 1) := by decide +kernel
theorem dX3_split_2 : decode cX3_split 2 = .ok (.invokevirtual 119, 3) := by decide +kernel
theorem dX3_split_5 : decode cX3_split 5 = .ok (.aload_n 0, 1) := by decide +kernel
theorem dX3_split_6 : decode cX3_split 6 = .ok (.iload_n 1, 1) := by decide +kernel
theorem dX3_split_7 : decode cX3_split 7 = .ok (.invokevirtual 122, 3) := by decide +kernel
theorem dX3_split_10 : decode cX3_split 10 = .ok (.imul, 1) := by decide +kernel
theorem dX3_split_11 : decode cX3_split 11 = .ok (.aload_n 0, 1) := by decide +kernel
theorem dX3_split_12 : decode cX3_split 12 = .ok (.aload_n 0, 1) := by decide +kernel
theorem dX3_split_13 : decode cX3_split 13 = .ok (.iload_n 1, 1) := by decide +kernel
theorem dX3_split_14 : decode cX3_split 14 = .ok (.iconst 4, 1) := by decide +kernel
theorem dX3_split_15 : decode cX3_split 15 = .ok (.invokevirtual 36, 3) := by decide +kernel
theorem dX3_split_18 : decode cX3_split 18 = .ok (.invokevirtual 125, 3) := by decide +kernel
theorem dX3_split_21 : decode cX3_split 21 = .ok (.imul, 1) := by decide +kernel
theorem dX3_split_22 : decode cX3_split 22 = .ok (.ireturn, 1) := by decide +kernel
set_option maxRecDepth 20000 in
theorem ggX3_entries_X3_isPlace : GoodIn wsX3_entries wsX3_isPlace := goodIn_r _ [5, 6, 7, 8, 4, 9, 42, 43, 44, 45, 46, 47, 48, 49, 50, 51] (by decide +kernel) (by decide +kernel)
set_option maxRecDepth 20000 in
theorem gX3_entries_X3_isPlace : GoodIn wsX3_entries (wsV RX3 63 RX3 yX3_isPlace wsX3_isPlace) := goodIn_app (goodIn_of _ (by decide +kernel)) ggX3_entries_X3_isPlace
set_option maxRecDepth 20000 in
theorem ggX3_entries_X3_holds : GoodIn wsX3_entries wsX3_holds := goodIn_r _ [13, 14, 42, 43, 44, 45, 46, 47, 48, 49, 50, 51] (by decide +kernel) (by decide +kernel)
set_option maxRecDepth 20000 in
theorem gX3_entries_X3_holds : GoodIn wsX3_entries (wsV RX3 55 RX3 yX3_holds wsX3_holds) := goodIn_app (goodIn_of _ (by decide +kernel)) ggX3_entries_X3_holds
set_option maxRecDepth 20000 in
theorem ggX3_entries_X3_split : GoodIn wsX3_entries wsX3_split := goodIn_r _ [18, 19, 20, 21, 4, 22, 23, 24, 25, 26, 27, 28, 29, 30, 31, 32, 33, 34, 35, 36, 37, 38, 39, 40, 41, 42, 43, 44, 45, 46, 47, 48, 49, 50, 51] (by decide +kernel) (by decide +kernel)
set_option maxRecDepth 20000 in
theorem gX3_entries_X3_split : GoodIn wsX3_entries (wsV RX3 128 RX3 yX3_split wsX3_split) := goodIn_app (goodIn_of _ (by decide +kernel)) ggX3_entries_X3_split
theorem dX3_entries_0 : decode cX3_entries 0 = .ok (.aload_n 0, 1) := by decide +kernel
theorem dX3_entries_1 : decode cX3_entries 1 = .ok (.aload_n 0, 1) := by decide +kernel
theorem dX3_entries_2 : decode cX3_entries 2 = .ok (.iload_n 1, 1) := by decide +kernel
theorem dX3_entries_3 : decode cX3_entries 3 = .ok (.invokevirtual 63, 3) := by decide +kernel
theorem dX3_entries_6 : decode cX3_entries 6 = .ok (.ifCond .eq 7, 3) := by decide +kernel
theorem dX3_entries_9 : decode cX3_entries 9 = .ok (.iconst 0, 1) := by decide +kernel
theorem dX3_entries_10 : decode cX3_entries 10 = .ok (.goto 4, 3) := by decide +kernel
theorem dX3_entries_13 : decode cX3_entries 13 = .ok (.iconst 1, 1) := by decide +kernel
theorem dX3_entries_14 : decode cX3_entries 14 = .ok (.invokevirtual 55, 3) := by decide +kernel
theorem dX3_entries_17 : decode cX3_entries 17 = .ok (.ifCond .eq 11, 3) := by decide +kernel
theorem dX3_entries_20 : decode cX3_entries 20 = .ok (.aload_n 0, 1) := by decide +kernel
theorem dX3_entries_21 : decode cX3_entries 21 = .ok (.iload_n 1, 1) := by decide +kernel
theorem dX3_entries_22 : decode cX3_entries 22 = .ok (.invokevirtual 128, 3) := by decide +kernel
theorem dX3_entries_25 : decode cX3_entries 25 = .ok (.goto 4, 3) := by decide +kernel
theorem dX3_entries_28 : decode cX3_entries 28 = .ok (.iconst 0, 1) := by decide +kernel
theorem dX3_entries_29 : decode cX3_entries 29 = .ok (.ireturn, 1) := by decide +kernel
set_option maxRecDepth 20000 in
theorem ggX3_isEntry_X3_isPlace : GoodIn wsX3_isEntry wsX3_isPlace := goodIn_r _ [5, 6, 7, 8, 4, 9, 37, 38, 39, 40, 41, 42, 43, 44, 45, 46] (by decide +kernel) (by decide +kernel)
set_option maxRecDepth 20000 in
theorem gX3_isEntry_X3_isPlace : GoodIn wsX3_isEntry (wsV RX3 63 RX3 yX3_isPlace wsX3_isPlace) := goodIn_app (goodIn_of _ (by decide +kernel)) ggX3_isEntry_X3_isPlace
set_option maxRecDepth 20000 in
theorem ggX3_isEntry_X3_split : GoodIn wsX3_isEntry wsX3_split := goodIn_r _ [13, 14, 15, 16, 4, 17, 18, 19, 20, 21, 22, 23, 24, 25, 26, 27, 28, 29, 30, 31, 32, 33, 34, 35, 36, 37, 38, 39, 40, 41, 42, 43, 44, 45, 46] (by decide +kernel) (by decide +kernel)
set_option maxRecDepth 20000 in
theorem gX3_isEntry_X3_split : GoodIn wsX3_isEntry (wsV RX3 128 RX3 yX3_split wsX3_split) := goodIn_app (goodIn_of _ (by decide +kernel)) ggX3_isEntry_X3_split
set_option maxRecDepth 20000 in
theorem ggX3_isEntry_X3_in : GoodIn wsX3_isEntry wsX3_in := goodIn_r _ [9] (by decide +kernel) (by decide +kernel)
set_option maxRecDepth 20000 in
theorem gX3_isEntry_X3_in : GoodIn wsX3_isEntry (va_wsS RX3 32 yX3_in wsX3_in) := goodIn_app (goodIn_of _ (by decide +kernel)) ggX3_isEntry_X3_in
theorem dX3_isEntry_0 : decode cX3_isEntry 0 = .ok (.aload_n 0, 1) := by decide +kernel
theorem dX3_isEntry_1 : decode cX3_isEntry 1 = .ok (.iload_n 1, 1) := by decide +kernel
theorem dX3_isEntry_2 : decode cX3_isEntry 2 = .ok (.invokevirtual 63, 3) := by decide +kernel
theorem dX3_isEntry_5 : decode cX3_isEntry 5 = .ok (.ifCond .eq 22, 3) := by decide +kernel
theorem dX3_isEntry_8 : decode cX3_isEntry 8 = .ok (.iload_n 2, 1) := by decide +kernel
theorem dX3_isEntry_9 : decode cX3_isEntry 9 = .ok (.iconst 0, 1) := by decide +kernel
theorem dX3_isEntry_10 : decode cX3_isEntry 10 = .ok (.aload_n 0, 1) := by decide +kernel
theorem dX3_isEntry_11 : decode cX3_isEntry 11 = .ok (.iload_n 1, 1) := by decide +kernel
theorem dX3_isEntry_12 : decode cX3_isEntry 12 = .ok (.invokevirtual 128, 3) := by decide +kernel
theorem dX3_isEntry_15 : decode cX3_isEntry 15 = .ok (.iconst 1, 1) := by decide +kernel
theorem dX3_isEntry_16 : decode cX3_isEntry 16 = .ok (.isub, 1) := by decide +kernel
theorem dX3_isEntry_17 : decode cX3_isEntry 17 = .ok (.invokestatic 32, 3) := by decide +kernel
theorem dX3_isEntry_20 : decode cX3_isEntry 20 = .ok (.ifCond .eq 7, 3) := by decide +kernel
theorem dX3_isEntry_23 : decode cX3_isEntry 23 = .ok (.iconst 1, 1) := by decide +kernel
theorem dX3_isEntry_24 : decode cX3_isEntry 24 = .ok (.goto 4, 3) := by decide +kernel
theorem dX3_isEntry_27 : decode cX3_isEntry 27 = .ok (.iconst 0, 1) := by decide +kernel
theorem dX3_isEntry_28 : decode cX3_isEntry 28 = .ok (.ireturn, 1) := by decide +kernel
set_option maxRecDepth 20000 in
theorem ggX3_blockOf_X3_destinationBlocks : GoodIn wsX3_blockOf wsX3_destinationBlocks := goodIn_r _ [5, 6, 7, 8, 4, 9, 10, 11, 12, 13, 14, 15, 16, 21, 22, 23, 24, 25, 26, 27, 28, 29, 30] (by decide +kernel) (by decide +kernel)
set_option maxRecDepth 20000 in
theorem gX3_blockOf_X3_destinationBlocks : GoodIn wsX3_blockOf (wsV RX3 122 RX3 yX3_destinationBlocks wsX3_destinationBlocks) := goodIn_app (goodIn_of _ (by decide +kernel)) ggX3_blockOf_X3_destinationBlocks
set_option maxRecDepth 20000 in
theorem ggX3_blockOf_X3_of : GoodIn wsX3_blockOf wsX3_of := goodIn_r _ [9, 10, 21, 22, 23, 24, 25, 26, 27, 28, 29, 30] (by decide +kernel) (by decide +kernel)
set_option maxRecDepth 20000 in
theorem gX3_blockOf_X3_of : GoodIn wsX3_blockOf (wsV RX3 36 RX3 yX3_of wsX3_of) := goodIn_app (goodIn_of _ (by decide +kernel)) ggX3_blockOf_X3_of
set_option maxRecDepth 20000 in
theorem ggX3_blockOf_X3_splitsSet : GoodIn wsX3_blockOf wsX3_splitsSet := goodIn_r _ [20, 11, 12, 13, 4, 14, 15, 16, 21, 22, 23, 24, 25, 26, 27, 28, 29, 30] (by decide +kernel) (by decide +kernel)
set_option maxRecDepth 20000 in
theorem gX3_blockOf_X3_splitsSet : GoodIn wsX3_blockOf (wsV RX3 125 RX3 yX3_splitsSet wsX3_splitsSet) := goodIn_app (goodIn_of _ (by decide +kernel)) ggX3_blockOf_X3_splitsSet
theorem dX3_blockOf_0 : decode cX3_blockOf 0 = .ok (.aload_n 0, 1) := by decide +kernel
theorem dX3_blockOf_1 : decode cX3_blockOf 1 = .ok (.iload_n 1, 1) := by decide +kernel
theorem dX3_blockOf_2 : decode cX3_blockOf 2 = .ok (.invokevirtual 122, 3) := by decide +kernel
theorem dX3_blockOf_5 : decode cX3_blockOf 5 = .ok (.istore 4, 2) := by decide +kernel
theorem dX3_blockOf_7 : decode cX3_blockOf 7 = .ok (.aload_n 0, 1) := by decide +kernel
theorem dX3_blockOf_8 : decode cX3_blockOf 8 = .ok (.aload_n 0, 1) := by decide +kernel
theorem dX3_blockOf_9 : decode cX3_blockOf 9 = .ok (.iload_n 1, 1) := by decide +kernel
theorem dX3_blockOf_10 : decode cX3_blockOf 10 = .ok (.iconst 4, 1) := by decide +kernel
theorem dX3_blockOf_11 : decode cX3_blockOf 11 = .ok (.invokevirtual 36, 3) := by decide +kernel
theorem dX3_blockOf_14 : decode cX3_blockOf 14 = .ok (.invokevirtual 125, 3) := by decide +kernel
theorem dX3_blockOf_17 : decode cX3_blockOf 17 = .ok (.istore 5, 2) := by decide +kernel
theorem dX3_blockOf_19 : decode cX3_blockOf 19 = .ok (.iload_n 3, 1) := by decide +kernel
theorem dX3_blockOf_20 : decode cX3_blockOf 20 = .ok (.iload_n 3, 1) := by decide +kernel
theorem dX3_blockOf_21 : decode cX3_blockOf 21 = .ok (.bipush 16, 2) := by decide +kernel
theorem dX3_blockOf_23 : decode cX3_blockOf 23 = .ok (.if_icmp .ne 10, 3) := by decide +kernel
theorem dX3_blockOf_26 : decode cX3_blockOf 26 = .ok (.iload_n 2, 1) := by decide +kernel
theorem dX3_blockOf_27 : decode cX3_blockOf 27 = .ok (.iload 5, 2) := by decide +kernel
theorem dX3_blockOf_29 : decode cX3_blockOf 29 = .ok (.irem, 1) := by decide +kernel
theorem dX3_blockOf_30 : decode cX3_blockOf 30 = .ok (.goto 26, 3) := by decide +kernel
theorem dX3_blockOf_33 : decode cX3_blockOf 33 = .ok (.iload_n 3, 1) := by decide +kernel
theorem dX3_blockOf_34 : decode cX3_blockOf 34 = .ok (.bipush 8, 2) := by decide +kernel
theorem dX3_blockOf_36 : decode cX3_blockOf 36 = .ok (.if_icmp .ne 13, 3) := by decide +kernel
theorem dX3_blockOf_39 : decode cX3_blockOf 39 = .ok (.iload_n 2, 1) := by decide +kernel
theorem dX3_blockOf_40 : decode cX3_blockOf 40 = .ok (.iload 5, 2) := by decide +kernel
theorem dX3_blockOf_42 : decode cX3_blockOf 42 = .ok (.idiv, 1) := by decide +kernel
theorem dX3_blockOf_43 : decode cX3_blockOf 43 = .ok (.iload 4, 2) := by decide +kernel
theorem dX3_blockOf_45 : decode cX3_blockOf 45 = .ok (.irem, 1) := by decide +kernel
theorem dX3_blockOf_46 : decode cX3_blockOf 46 = .ok (.goto 10, 3) := by decide +kernel
theorem dX3_blockOf_49 : decode cX3_blockOf 49 = .ok (.iload_n 2, 1) := by decide +kernel
theorem dX3_blockOf_50 : decode cX3_blockOf 50 = .ok (.iload 5, 2) := by decide +kernel
theorem dX3_blockOf_52 : decode cX3_blockOf 52 = .ok (.idiv, 1) := by decide +kernel
theorem dX3_blockOf_53 : decode cX3_blockOf 53 = .ok (.iload 4, 2) := by decide +kernel
theorem dX3_blockOf_55 : decode cX3_blockOf 55 = .ok (.idiv, 1) := by decide +kernel
theorem dX3_blockOf_56 : decode cX3_blockOf 56 = .ok (.iadd, 1) := by decide +kernel
theorem dX3_blockOf_57 : decode cX3_blockOf 57 = .ok (.ireturn, 1) := by decide +kernel
set_option maxRecDepth 20000 in
theorem ggX3_entryValue_X3_isEntry : GoodIn wsX3_entryValue wsX3_isEntry := goodIn_r _ [6, 7, 8, 9, 5, 10, 11, 12, 13, 14, 15, 16, 17, 18, 19, 20, 21, 22, 23, 24, 25, 26, 27, 28, 29, 30, 31, 1, 32, 33, 34, 35, 36, 37, 38, 39, 40, 50, 51, 52, 53, 54, 55, 56, 57, 58, 59] (by decide +kernel) (by decide +kernel)
set_option maxRecDepth 20000 in
theorem gX3_entryValue_X3_isEntry : GoodIn wsX3_entryValue (wsV RX3 131 RX3 yX3_isEntry wsX3_isEntry) := goodIn_app (goodIn_of _ (by decide +kernel)) ggX3_entryValue_X3_isEntry
set_option maxRecDepth 20000 in
theorem ggX3_entryValue_X3_holds : GoodIn wsX3_entryValue wsX3_holds := goodIn_r _ [44, 45, 50, 51, 52, 53, 54, 55, 56, 57, 58, 59] (by decide +kernel) (by decide +kernel)
set_option maxRecDepth 20000 in
theorem gX3_entryValue_X3_holds : GoodIn wsX3_entryValue (wsV RX3 55 RX3 yX3_holds wsX3_holds) := goodIn_app (goodIn_of _ (by decide +kernel)) ggX3_entryValue_X3_holds
set_option maxRecDepth 20000 in
theorem ggX3_entryValue_X3_blockOf : GoodIn wsX3_entryValue wsX3_blockOf := goodIn_r _ [49, 33, 34, 35, 5, 36, 23, 24, 25, 26, 27, 28, 29, 30, 31, 1, 32, 37, 38, 39, 40, 50, 51, 52, 53, 54, 55, 56, 57, 58, 59] (by decide +kernel) (by decide +kernel)
set_option maxRecDepth 20000 in
theorem gX3_entryValue_X3_blockOf : GoodIn wsX3_entryValue (wsV RX3 134 RX3 yX3_blockOf wsX3_blockOf) := goodIn_app (goodIn_of _ (by decide +kernel)) ggX3_entryValue_X3_blockOf
theorem dX3_entryValue_0 : decode cX3_entryValue 0 = .ok (.aload_n 0, 1) := by decide +kernel
theorem dX3_entryValue_1 : decode cX3_entryValue 1 = .ok (.aload_n 0, 1) := by decide +kernel
theorem dX3_entryValue_2 : decode cX3_entryValue 2 = .ok (.iload_n 1, 1) := by decide +kernel
theorem dX3_entryValue_3 : decode cX3_entryValue 3 = .ok (.iload_n 2, 1) := by decide +kernel
theorem dX3_entryValue_4 : decode cX3_entryValue 4 = .ok (.invokevirtual 131, 3) := by decide +kernel
theorem dX3_entryValue_7 : decode cX3_entryValue 7 = .ok (.ifCond .eq 7, 3) := by decide +kernel
theorem dX3_entryValue_10 : decode cX3_entryValue 10 = .ok (.iconst 0, 1) := by decide +kernel
theorem dX3_entryValue_11 : decode cX3_entryValue 11 = .ok (.goto 4, 3) := by decide +kernel
theorem dX3_entryValue_14 : decode cX3_entryValue 14 = .ok (.iconst 1, 1) := by decide +kernel
theorem dX3_entryValue_15 : decode cX3_entryValue 15 = .ok (.invokevirtual 55, 3) := by decide +kernel
theorem dX3_entryValue_18 : decode cX3_entryValue 18 = .ok (.ifCond .ne 5, 3) := by decide +kernel
theorem dX3_entryValue_21 : decode cX3_entryValue 21 = .ok (.iconst 0, 1) := by decide +kernel
theorem dX3_entryValue_22 : decode cX3_entryValue 22 = .ok (.ireturn, 1) := by decide +kernel
theorem dX3_entryValue_23 : decode cX3_entryValue 23 = .ok (.sipush 128, 3) := by decide +kernel
theorem dX3_entryValue_26 : decode cX3_entryValue 26 = .ok (.aload_n 0, 1) := by decide +kernel
theorem dX3_entryValue_27 : decode cX3_entryValue 27 = .ok (.getfield 19, 3) := by decide +kernel
theorem dX3_entryValue_30 : decode cX3_entryValue 30 = .ok (.aload_n 0, 1) := by decide +kernel
theorem dX3_entryValue_31 : decode cX3_entryValue 31 = .ok (.iload_n 1, 1) := by decide +kernel
theorem dX3_entryValue_32 : decode cX3_entryValue 32 = .ok (.iload_n 2, 1) := by decide +kernel
theorem dX3_entryValue_33 : decode cX3_entryValue 33 = .ok (.iconst 0, 1) := by decide +kernel
theorem dX3_entryValue_34 : decode cX3_entryValue 34 = .ok (.invokevirtual 134, 3) := by decide +kernel
theorem dX3_entryValue_37 : decode cX3_entryValue 37 = .ok (.iaload, 1) := by decide +kernel
theorem dX3_entryValue_38 : decode cX3_entryValue 38 = .ok (.imul, 1) := by decide +kernel
theorem dX3_entryValue_39 : decode cX3_entryValue 39 = .ok (.iconst 4, 1) := by decide +kernel
theorem dX3_entryValue_40 : decode cX3_entryValue 40 = .ok (.aload_n 0, 1) := by decide +kernel
theorem dX3_entryValue_41 : decode cX3_entryValue 41 = .ok (.getfield 19, 3) := by decide +kernel
theorem dX3_entryValue_44 : decode cX3_entryValue 44 = .ok (.aload_n 0, 1) := by decide +kernel
theorem dX3_entryValue_45 : decode cX3_entryValue 45 = .ok (.iload_n 1, 1) := by decide +kernel
theorem dX3_entryValue_46 : decode cX3_entryValue 46 = .ok (.iload_n 2, 1) := by decide +kernel
theorem dX3_entryValue_47 : decode cX3_entryValue 47 = .ok (.bipush 8, 2) := by decide +kernel
theorem dX3_entryValue_49 : decode cX3_entryValue 49 = .ok (.invokevirtual 134, 3) := by decide +kernel
theorem dX3_entryValue_52 : decode cX3_entryValue 52 = .ok (.iaload, 1) := by decide +kernel
theorem dX3_entryValue_53 : decode cX3_entryValue 53 = .ok (.imul, 1) := by decide +kernel
theorem dX3_entryValue_54 : decode cX3_entryValue 54 = .ok (.iadd, 1) := by decide +kernel
theorem dX3_entryValue_55 : decode cX3_entryValue 55 = .ok (.aload_n 0, 1) := by decide +kernel
theorem dX3_entryValue_56 : decode cX3_entryValue 56 = .ok (.getfield 19, 3) := by decide +kernel
theorem dX3_entryValue_59 : decode cX3_entryValue 59 = .ok (.aload_n 0, 1) := by decide +kernel
theorem dX3_entryValue_60 : decode cX3_entryValue 60 = .ok (.iload_n 1, 1) := by decide +kernel
theorem dX3_entryValue_61 : decode cX3_entryValue 61 = .ok (.iload_n 2, 1) := by decide +kernel
theorem dX3_entryValue_62 : decode cX3_entryValue 62 = .ok (.bipush 16, 2) := by decide +kernel
theorem dX3_entryValue_64 : decode cX3_entryValue 64 = .ok (.invokevirtual 134, 3) := by decide +kernel
theorem dX3_entryValue_67 : decode cX3_entryValue 67 = .ok (.iaload, 1) := by decide +kernel
theorem dX3_entryValue_68 : decode cX3_entryValue 68 = .ok (.iadd, 1) := by decide +kernel
theorem dX3_entryValue_69 : decode cX3_entryValue 69 = .ok (.ireturn, 1) := by decide +kernel
set_option maxRecDepth 20000 in
theorem ggX3_entryMask_X3_isEntry : GoodIn wsX3_entryMask wsX3_isEntry := goodIn_r _ [6, 7, 8, 9, 5, 10, 11, 12, 13, 14, 15, 16, 17, 18, 19, 20, 21, 22, 23, 24, 25, 26, 27, 28, 29, 30, 31, 32, 1, 33, 34, 35, 36, 37, 38, 39, 40, 50, 51, 52, 53, 54, 55, 56, 57, 58, 59] (by decide +kernel) (by decide +kernel)
set_option maxRecDepth 20000 in
theorem gX3_entryMask_X3_isEntry : GoodIn wsX3_entryMask (wsV RX3 131 RX3 yX3_isEntry wsX3_isEntry) := goodIn_app (goodIn_of _ (by decide +kernel)) ggX3_entryMask_X3_isEntry
set_option maxRecDepth 20000 in
theorem ggX3_entryMask_X3_holds : GoodIn wsX3_entryMask wsX3_holds := goodIn_r _ [44, 45, 50, 51, 52, 53, 54, 55, 56, 57, 58, 59] (by decide +kernel) (by decide +kernel)
set_option maxRecDepth 20000 in
theorem gX3_entryMask_X3_holds : GoodIn wsX3_entryMask (wsV RX3 55 RX3 yX3_holds wsX3_holds) := goodIn_app (goodIn_of _ (by decide +kernel)) ggX3_entryMask_X3_holds
set_option maxRecDepth 20000 in
theorem ggX3_entryMask_X3_blockOf : GoodIn wsX3_entryMask wsX3_blockOf := goodIn_r _ [49, 33, 34, 35, 5, 36, 23, 24, 25, 26, 27, 28, 29, 30, 31, 32, 1, 37, 38, 39, 40, 50, 51, 52, 53, 54, 55, 56, 57, 58, 59] (by decide +kernel) (by decide +kernel)
set_option maxRecDepth 20000 in
theorem gX3_entryMask_X3_blockOf : GoodIn wsX3_entryMask (wsV RX3 134 RX3 yX3_blockOf wsX3_blockOf) := goodIn_app (goodIn_of _ (by decide +kernel)) ggX3_entryMask_X3_blockOf
theorem dX3_entryMask_0 : decode cX3_entryMask 0 = .ok (.aload_n 0, 1) := by decide +kernel
theorem dX3_entryMask_1 : decode cX3_entryMask 1 = .ok (.aload_n 0, 1) := by decide +kernel
theorem dX3_entryMask_2 : decode cX3_entryMask 2 = .ok (.iload_n 1, 1) := by decide +kernel
theorem dX3_entryMask_3 : decode cX3_entryMask 3 = .ok (.iload_n 2, 1) := by decide +kernel
theorem dX3_entryMask_4 : decode cX3_entryMask 4 = .ok (.invokevirtual 131, 3) := by decide +kernel
theorem dX3_entryMask_7 : decode cX3_entryMask 7 = .ok (.ifCond .eq 7, 3) := by decide +kernel
theorem dX3_entryMask_10 : decode cX3_entryMask 10 = .ok (.iconst 0, 1) := by decide +kernel
theorem dX3_entryMask_11 : decode cX3_entryMask 11 = .ok (.goto 4, 3) := by decide +kernel
theorem dX3_entryMask_14 : decode cX3_entryMask 14 = .ok (.iconst 1, 1) := by decide +kernel
theorem dX3_entryMask_15 : decode cX3_entryMask 15 = .ok (.invokevirtual 55, 3) := by decide +kernel
theorem dX3_entryMask_18 : decode cX3_entryMask 18 = .ok (.ifCond .ne 5, 3) := by decide +kernel
theorem dX3_entryMask_21 : decode cX3_entryMask 21 = .ok (.iconst 0, 1) := by decide +kernel
theorem dX3_entryMask_22 : decode cX3_entryMask 22 = .ok (.ireturn, 1) := by decide +kernel
theorem dX3_entryMask_23 : decode cX3_entryMask 23 = .ok (.sipush 128, 3) := by decide +kernel
