theorem dX2_exchangeInOnePass_44 : decode cX2_exchangeInOnePass 44 = .ok (.aload 4, 2) := by decide +kernel
theorem dX2_exchangeInOnePass_46 : decode cX2_exchangeInOnePass 46 = .ok (.getfield 115, 3) := by decide +kernel
theorem dX2_exchangeInOnePass_49 : decode cX2_exchangeInOnePass 49 = .ok (.aload_n 3, 1) := by decide +kernel
theorem dX2_exchangeInOnePass_50 : decode cX2_exchangeInOnePass 50 = .ok (.getfield 115, 3) := by decide +kernel
theorem dX2_exchangeInOnePass_53 : decode cX2_exchangeInOnePass 53 = .ok (.if_icmp .le 38, 3) := by decide +kernel
theorem dX2_exchangeInOnePass_56 : decode cX2_exchangeInOnePass 56 = .ok (.aload_n 3, 1) := by decide +kernel
theorem dX2_exchangeInOnePass_57 : decode cX2_exchangeInOnePass 57 = .ok (.aload 4, 2) := by decide +kernel
theorem dX2_exchangeInOnePass_59 : decode cX2_exchangeInOnePass 59 = .ok (.invokevirtual 212, 3) := by decide +kernel
theorem dX2_exchangeInOnePass_62 : decode cX2_exchangeInOnePass 62 = .ok (.ifCond .eq 29, 3) := by decide +kernel
theorem dX2_exchangeInOnePass_65 : decode cX2_exchangeInOnePass 65 = .ok (.aload_n 0, 1) := by decide +kernel
theorem dX2_exchangeInOnePass_66 : decode cX2_exchangeInOnePass 66 = .ok (.getfield 10, 3) := by decide +kernel
theorem dX2_exchangeInOnePass_69 : decode cX2_exchangeInOnePass 69 = .ok (.iload_n 2, 1) := by decide +kernel
theorem dX2_exchangeInOnePass_70 : decode cX2_exchangeInOnePass 70 = .ok (.aload 4, 2) := by decide +kernel
theorem dX2_exchangeInOnePass_72 : decode cX2_exchangeInOnePass 72 = .ok (.invokevirtual 215, 3) := by decide +kernel
theorem dX2_exchangeInOnePass_75 : decode cX2_exchangeInOnePass 75 = .ok (.pop, 1) := by decide +kernel
theorem dX2_exchangeInOnePass_76 : decode cX2_exchangeInOnePass 76 = .ok (.aload_n 0, 1) := by decide +kernel
theorem dX2_exchangeInOnePass_77 : decode cX2_exchangeInOnePass 77 = .ok (.getfield 10, 3) := by decide +kernel
theorem dX2_exchangeInOnePass_80 : decode cX2_exchangeInOnePass 80 = .ok (.iload_n 2, 1) := by decide +kernel
theorem dX2_exchangeInOnePass_81 : decode cX2_exchangeInOnePass 81 = .ok (.iconst 1, 1) := by decide +kernel
theorem dX2_exchangeInOnePass_82 : decode cX2_exchangeInOnePass 82 = .ok (.iadd, 1) := by decide +kernel
theorem dX2_exchangeInOnePass_83 : decode cX2_exchangeInOnePass 83 = .ok (.aload_n 3, 1) := by decide +kernel
theorem dX2_exchangeInOnePass_84 : decode cX2_exchangeInOnePass 84 = .ok (.invokevirtual 215, 3) := by decide +kernel
theorem dX2_exchangeInOnePass_87 : decode cX2_exchangeInOnePass 87 = .ok (.pop, 1) := by decide +kernel
theorem dX2_exchangeInOnePass_88 : decode cX2_exchangeInOnePass 88 = .ok (.iinc 1 1, 3) := by decide +kernel
theorem dX2_exchangeInOnePass_91 : decode cX2_exchangeInOnePass 91 = .ok (.iinc 2 1, 3) := by decide +kernel
theorem dX2_exchangeInOnePass_94 : decode cX2_exchangeInOnePass 94 = .ok (.goto (-90), 3) := by decide +kernel
theorem dX2_exchangeInOnePass_97 : decode cX2_exchangeInOnePass 97 = .ok (.iload_n 1, 1) := by decide +kernel
theorem dX2_exchangeInOnePass_98 : decode cX2_exchangeInOnePass 98 = .ok (.ireturn, 1) := by decide +kernel
set_option maxRecDepth 20000 in
theorem ggX2_entryCount_X2_blockBegins : GoodIn wsX2_entryCount wsX2_blockBegins := goodIn_r _ [8, 9, 10, 7, 11, 12, 13, 14] (by decide +kernel) (by decide +kernel)
set_option maxRecDepth 20000 in
theorem gX2_entryCount_X2_blockBegins : GoodIn wsX2_entryCount (va_wsS RX2 218 yX2_blockBegins wsX2_blockBegins) := goodIn_app (goodIn_of _ (by decide +kernel)) ggX2_entryCount_X2_blockBegins
set_option maxRecDepth 20000 in
theorem ggX2_entryCount_J6_bitCount_0f7a4 : GoodIn wsX2_entryCount wsJ6_bitCount_0f7a4 := goodIn_r _ [18, 19, 20, 21] (by decide +kernel) (by decide +kernel)
set_option maxRecDepth 20000 in
theorem gX2_entryCount_J6_bitCount_0f7a4 : GoodIn wsX2_entryCount (va_wsS RX2 144 yJ6_bitCount_0f7a4 wsJ6_bitCount_0f7a4) := goodIn_app (goodIn_of _ (by decide +kernel)) ggX2_entryCount_J6_bitCount_0f7a4
theorem dX2_entryCount_0 : decode cX2_entryCount 0 = .ok (.aload_n 0, 1) := by decide +kernel
theorem dX2_entryCount_1 : decode cX2_entryCount 1 = .ok (.getfield 77, 3) := by decide +kernel
theorem dX2_entryCount_4 : decode cX2_entryCount 4 = .ok (.getfield 174, 3) := by decide +kernel
theorem dX2_entryCount_7 : decode cX2_entryCount 7 = .ok (.invokestatic 218, 3) := by decide +kernel
theorem dX2_entryCount_10 : decode cX2_entryCount 10 = .ok (.invokestatic 144, 3) := by decide +kernel
theorem dX2_entryCount_13 : decode cX2_entryCount 13 = .ok (.aload_n 0, 1) := by decide +kernel
theorem dX2_entryCount_14 : decode cX2_entryCount 14 = .ok (.getfield 84, 3) := by decide +kernel
theorem dX2_entryCount_17 : decode cX2_entryCount 17 = .ok (.getfield 174, 3) := by decide +kernel
theorem dX2_entryCount_20 : decode cX2_entryCount 20 = .ok (.invokestatic 218, 3) := by decide +kernel
theorem dX2_entryCount_23 : decode cX2_entryCount 23 = .ok (.invokestatic 144, 3) := by decide +kernel
theorem dX2_entryCount_26 : decode cX2_entryCount 26 = .ok (.imul, 1) := by decide +kernel
theorem dX2_entryCount_27 : decode cX2_entryCount 27 = .ok (.aload_n 0, 1) := by decide +kernel
theorem dX2_entryCount_28 : decode cX2_entryCount 28 = .ok (.getfield 87, 3) := by decide +kernel
theorem dX2_entryCount_31 : decode cX2_entryCount 31 = .ok (.invokestatic 218, 3) := by decide +kernel
theorem dX2_entryCount_34 : decode cX2_entryCount 34 = .ok (.invokestatic 144, 3) := by decide +kernel
theorem dX2_entryCount_37 : decode cX2_entryCount 37 = .ok (.imul, 1) := by decide +kernel
theorem dX2_entryCount_38 : decode cX2_entryCount 38 = .ok (.ireturn, 1) := by decide +kernel
set_option maxRecDepth 20000 in
theorem ggX2_valueOfEntry_X2_blockBegins : GoodIn wsX2_valueOfEntry wsX2_blockBegins := goodIn_r _ [10, 11, 12, 9, 13, 14, 15, 16] (by decide +kernel) (by decide +kernel)
set_option maxRecDepth 20000 in
theorem gX2_valueOfEntry_X2_blockBegins : GoodIn wsX2_valueOfEntry (va_wsS RX2 218 yX2_blockBegins wsX2_blockBegins) := goodIn_app (goodIn_of _ (by decide +kernel)) ggX2_valueOfEntry_X2_blockBegins
set_option maxRecDepth 20000 in
theorem ggX2_valueOfEntry_X2_holds : GoodIn wsX2_valueOfEntry wsX2_holds := goodIn_r _ [19] (by decide +kernel) (by decide +kernel)
set_option maxRecDepth 20000 in
theorem gX2_valueOfEntry_X2_holds : GoodIn wsX2_valueOfEntry (va_wsS RX2 202 yX2_holds wsX2_holds) := goodIn_app (goodIn_of _ (by decide +kernel)) ggX2_valueOfEntry_X2_holds
set_option maxRecDepth 20000 in
theorem ggX2_valueOfEntry_X2_packetNumber : GoodIn wsX2_valueOfEntry wsX2_packetNumber := goodIn_r _ [22] (by decide +kernel) (by decide +kernel)
set_option maxRecDepth 20000 in
theorem gX2_valueOfEntry_X2_packetNumber : GoodIn wsX2_valueOfEntry (va_wsS RX2 180 yX2_packetNumber wsX2_packetNumber) := goodIn_app (goodIn_of _ (by decide +kernel)) ggX2_valueOfEntry_X2_packetNumber
theorem dX2_valueOfEntry_0 : decode cX2_valueOfEntry 0 = .ok (.aload_n 0, 1) := by decide +kernel
theorem dX2_valueOfEntry_1 : decode cX2_valueOfEntry 1 = .ok (.getfield 77, 3) := by decide +kernel
theorem dX2_valueOfEntry_4 : decode cX2_valueOfEntry 4 = .ok (.getfield 174, 3) := by decide +kernel
theorem dX2_valueOfEntry_7 : decode cX2_valueOfEntry 7 = .ok (.invokestatic 218, 3) := by decide +kernel
theorem dX2_valueOfEntry_10 : decode cX2_valueOfEntry 10 = .ok (.istore_n 2, 1) := by decide +kernel
theorem dX2_valueOfEntry_11 : decode cX2_valueOfEntry 11 = .ok (.aload_n 0, 1) := by decide +kernel
theorem dX2_valueOfEntry_12 : decode cX2_valueOfEntry 12 = .ok (.getfield 84, 3) := by decide +kernel
theorem dX2_valueOfEntry_15 : decode cX2_valueOfEntry 15 = .ok (.getfield 174, 3) := by decide +kernel
theorem dX2_valueOfEntry_18 : decode cX2_valueOfEntry 18 = .ok (.invokestatic 218, 3) := by decide +kernel
theorem dX2_valueOfEntry_21 : decode cX2_valueOfEntry 21 = .ok (.istore_n 3, 1) := by decide +kernel
theorem dX2_valueOfEntry_22 : decode cX2_valueOfEntry 22 = .ok (.aload_n 0, 1) := by decide +kernel
theorem dX2_valueOfEntry_23 : decode cX2_valueOfEntry 23 = .ok (.getfield 87, 3) := by decide +kernel
theorem dX2_valueOfEntry_26 : decode cX2_valueOfEntry 26 = .ok (.invokestatic 218, 3) := by decide +kernel
theorem dX2_valueOfEntry_29 : decode cX2_valueOfEntry 29 = .ok (.istore 4, 2) := by decide +kernel
theorem dX2_valueOfEntry_31 : decode cX2_valueOfEntry 31 = .ok (.iconst 0, 1) := by decide +kernel
theorem dX2_valueOfEntry_32 : decode cX2_valueOfEntry 32 = .ok (.istore 5, 2) := by decide +kernel
theorem dX2_valueOfEntry_34 : decode cX2_valueOfEntry 34 = .ok (.iconst 0, 1) := by decide +kernel
theorem dX2_valueOfEntry_35 : decode cX2_valueOfEntry 35 = .ok (.istore 6, 2) := by decide +kernel
theorem dX2_valueOfEntry_37 : decode cX2_valueOfEntry 37 = .ok (.iload 6, 2) := by decide +kernel
theorem dX2_valueOfEntry_39 : decode cX2_valueOfEntry 39 = .ok (.bipush 32, 2) := by decide +kernel
theorem dX2_valueOfEntry_41 : decode cX2_valueOfEntry 41 = .ok (.if_icmp .ge 87, 3) := by decide +kernel
theorem dX2_valueOfEntry_44 : decode cX2_valueOfEntry 44 = .ok (.iconst 0, 1) := by decide +kernel
theorem dX2_valueOfEntry_45 : decode cX2_valueOfEntry 45 = .ok (.istore 7, 2) := by decide +kernel
theorem dX2_valueOfEntry_47 : decode cX2_valueOfEntry 47 = .ok (.iload_n 2, 1) := by decide +kernel
theorem dX2_valueOfEntry_48 : decode cX2_valueOfEntry 48 = .ok (.iload 6, 2) := by decide +kernel
theorem dX2_valueOfEntry_50 : decode cX2_valueOfEntry 50 = .ok (.invokestatic 202, 3) := by decide +kernel
theorem dX2_valueOfEntry_53 : decode cX2_valueOfEntry 53 = .ok (.ifCond .eq 69, 3) := by decide +kernel
theorem dX2_valueOfEntry_56 : decode cX2_valueOfEntry 56 = .ok (.iload 7, 2) := by decide +kernel
theorem dX2_valueOfEntry_58 : decode cX2_valueOfEntry 58 = .ok (.bipush 32, 2) := by decide +kernel
theorem dX2_valueOfEntry_60 : decode cX2_valueOfEntry 60 = .ok (.if_icmp .ge 62, 3) := by decide +kernel
theorem dX2_valueOfEntry_63 : decode cX2_valueOfEntry 63 = .ok (.iconst 0, 1) := by decide +kernel
theorem dX2_valueOfEntry_64 : decode cX2_valueOfEntry 64 = .ok (.istore 8, 2) := by decide +kernel
theorem dX2_valueOfEntry_66 : decode cX2_valueOfEntry 66 = .ok (.iload_n 3, 1) := by decide +kernel
theorem dX2_valueOfEntry_67 : decode cX2_valueOfEntry 67 = .ok (.iload 7, 2) := by decide +kernel
theorem dX2_valueOfEntry_69 : decode cX2_valueOfEntry 69 = .ok (.invokestatic 202, 3) := by decide +kernel
theorem dX2_valueOfEntry_72 : decode cX2_valueOfEntry 72 = .ok (.ifCond .eq 44, 3) := by decide +kernel
theorem dX2_valueOfEntry_75 : decode cX2_valueOfEntry 75 = .ok (.iload 8, 2) := by decide +kernel
theorem dX2_valueOfEntry_77 : decode cX2_valueOfEntry 77 = .ok (.iconst 4, 1) := by decide +kernel
theorem dX2_valueOfEntry_78 : decode cX2_valueOfEntry 78 = .ok (.if_icmp .ge 38, 3) := by decide +kernel
theorem dX2_valueOfEntry_81 : decode cX2_valueOfEntry 81 = .ok (.iload 4, 2) := by decide +kernel
theorem dX2_valueOfEntry_83 : decode cX2_valueOfEntry 83 = .ok (.iload 8, 2) := by decide +kernel
theorem dX2_valueOfEntry_85 : decode cX2_valueOfEntry 85 = .ok (.invokestatic 202, 3) := by decide +kernel
theorem dX2_valueOfEntry_88 : decode cX2_valueOfEntry 88 = .ok (.ifCond .eq 22, 3) := by decide +kernel
theorem dX2_valueOfEntry_91 : decode cX2_valueOfEntry 91 = .ok (.iload 5, 2) := by decide +kernel
theorem dX2_valueOfEntry_93 : decode cX2_valueOfEntry 93 = .ok (.iload_n 1, 1) := by decide +kernel
theorem dX2_valueOfEntry_94 : decode cX2_valueOfEntry 94 = .ok (.if_icmp .ne 13, 3) := by decide +kernel
theorem dX2_valueOfEntry_97 : decode cX2_valueOfEntry 97 = .ok (.iload 6, 2) := by decide +kernel
theorem dX2_valueOfEntry_99 : decode cX2_valueOfEntry 99 = .ok (.iload 7, 2) := by decide +kernel
theorem dX2_valueOfEntry_101 : decode cX2_valueOfEntry 101 = .ok (.iload 8, 2) := by decide +kernel
theorem dX2_valueOfEntry_103 : decode cX2_valueOfEntry 103 = .ok (.invokestatic 180, 3) := by decide +kernel
theorem dX2_valueOfEntry_106 : decode cX2_valueOfEntry 106 = .ok (.ireturn, 1) := by decide +kernel
theorem dX2_valueOfEntry_107 : decode cX2_valueOfEntry 107 = .ok (.iinc 5 1, 3) := by decide +kernel
theorem dX2_valueOfEntry_110 : decode cX2_valueOfEntry 110 = .ok (.iinc 8 1, 3) := by decide +kernel
theorem dX2_valueOfEntry_113 : decode cX2_valueOfEntry 113 = .ok (.goto (-47), 3) := by decide +kernel
theorem dX2_valueOfEntry_116 : decode cX2_valueOfEntry 116 = .ok (.iinc 7 1, 3) := by decide +kernel
theorem dX2_valueOfEntry_119 : decode cX2_valueOfEntry 119 = .ok (.goto (-72), 3) := by decide +kernel
theorem dX2_valueOfEntry_122 : decode cX2_valueOfEntry 122 = .ok (.iinc 6 1, 3) := by decide +kernel
theorem dX2_valueOfEntry_125 : decode cX2_valueOfEntry 125 = .ok (.goto (-88), 3) := by decide +kernel
theorem dX2_valueOfEntry_128 : decode cX2_valueOfEntry 128 = .ok (.new 150, 3) := by decide +kernel
theorem dX2_valueOfEntry_131 : decode cX2_valueOfEntry 131 = .ok (.dup, 1) := by decide +kernel
theorem dX2_valueOfEntry_132 : decode cX2_valueOfEntry 132 = .ok (.ldc 221, 2) := by decide +kernel
theorem dX2_valueOfEntry_134 : decode cX2_valueOfEntry 134 = .ok (.invokespecial 154, 3) := by decide +kernel
theorem dX2_valueOfEntry_137 : decode cX2_valueOfEntry 137 = .ok (.athrow, 1) := by decide +kernel
theorem dX2_packetNumber_0 : decode cX2_packetNumber 0 = .ok (.iload_n 0, 1) := by decide +kernel
theorem dX2_packetNumber_1 : decode cX2_packetNumber 1 = .ok (.sipush 128, 3) := by decide +kernel
theorem dX2_packetNumber_4 : decode cX2_packetNumber 4 = .ok (.imul, 1) := by decide +kernel
theorem dX2_packetNumber_5 : decode cX2_packetNumber 5 = .ok (.iload_n 1, 1) := by decide +kernel
theorem dX2_packetNumber_6 : decode cX2_packetNumber 6 = .ok (.iconst 4, 1) := by decide +kernel
theorem dX2_packetNumber_7 : decode cX2_packetNumber 7 = .ok (.imul, 1) := by decide +kernel
theorem dX2_packetNumber_8 : decode cX2_packetNumber 8 = .ok (.iadd, 1) := by decide +kernel
theorem dX2_packetNumber_9 : decode cX2_packetNumber 9 = .ok (.iload_n 2, 1) := by decide +kernel
theorem dX2_packetNumber_10 : decode cX2_packetNumber 10 = .ok (.iadd, 1) := by decide +kernel
theorem dX2_packetNumber_11 : decode cX2_packetNumber 11 = .ok (.ireturn, 1) := by decide +kernel
set_option maxRecDepth 20000 in
theorem ggX2_blockBegins_X2_blockSize : GoodIn wsX2_blockBegins wsX2_blockSize := goodIn_r _ [4, 5, 6, 3, 7] (by decide +kernel) (by decide +kernel)
set_option maxRecDepth 20000 in
theorem gX2_blockBegins_X2_blockSize : GoodIn wsX2_blockBegins (va_wsS RX2 223 yX2_blockSize wsX2_blockSize) := goodIn_app (goodIn_of _ (by decide +kernel)) ggX2_blockBegins_X2_blockSize
theorem dX2_blockBegins_0 : decode cX2_blockBegins 0 = .ok (.iconst 0, 1) := by decide +kernel
theorem dX2_blockBegins_1 : decode cX2_blockBegins 1 = .ok (.istore_n 1, 1) := by decide +kernel
theorem dX2_blockBegins_2 : decode cX2_blockBegins 2 = .ok (.iconst 0, 1) := by decide +kernel
theorem dX2_blockBegins_3 : decode cX2_blockBegins 3 = .ok (.istore_n 2, 1) := by decide +kernel
theorem dX2_blockBegins_4 : decode cX2_blockBegins 4 = .ok (.iload_n 2, 1) := by decide +kernel
theorem dX2_blockBegins_5 : decode cX2_blockBegins 5 = .ok (.bipush 32, 2) := by decide +kernel
theorem dX2_blockBegins_7 : decode cX2_blockBegins 7 = .ok (.if_icmp .ge 33, 3) := by decide +kernel
theorem dX2_blockBegins_10 : decode cX2_blockBegins 10 = .ok (.iload_n 0, 1) := by decide +kernel
theorem dX2_blockBegins_11 : decode cX2_blockBegins 11 = .ok (.iload_n 2, 1) := by decide +kernel
theorem dX2_blockBegins_12 : decode cX2_blockBegins 12 = .ok (.invokestatic 223, 3) := by decide +kernel
theorem dX2_blockBegins_15 : decode cX2_blockBegins 15 = .ok (.istore_n 3, 1) := by decide +kernel
theorem dX2_blockBegins_16 : decode cX2_blockBegins 16 = .ok (.iload_n 3, 1) := by decide +kernel
theorem dX2_blockBegins_17 : decode cX2_blockBegins 17 = .ok (.ifCond .le 17, 3) := by decide +kernel
theorem dX2_blockBegins_20 : decode cX2_blockBegins 20 = .ok (.iload_n 2, 1) := by decide +kernel
theorem dX2_blockBegins_21 : decode cX2_blockBegins 21 = .ok (.iload_n 3, 1) := by decide +kernel
theorem dX2_blockBegins_22 : decode cX2_blockBegins 22 = .ok (.iconst 1, 1) := by decide +kernel
theorem dX2_blockBegins_23 : decode cX2_blockBegins 23 = .ok (.isub, 1) := by decide +kernel
theorem dX2_blockBegins_24 : decode cX2_blockBegins 24 = .ok (.iand, 1) := by decide +kernel
theorem dX2_blockBegins_25 : decode cX2_blockBegins 25 = .ok (.ifCond .ne 9, 3) := by decide +kernel
theorem dX2_blockBegins_28 : decode cX2_blockBegins 28 = .ok (.iload_n 1, 1) := by decide +kernel
theorem dX2_blockBegins_29 : decode cX2_blockBegins 29 = .ok (.iconst 1, 1) := by decide +kernel
theorem dX2_blockBegins_30 : decode cX2_blockBegins 30 = .ok (.iload_n 2, 1) := by decide +kernel
theorem dX2_blockBegins_31 : decode cX2_blockBegins 31 = .ok (.ishl, 1) := by decide +kernel
theorem dX2_blockBegins_32 : decode cX2_blockBegins 32 = .ok (.ior, 1) := by decide +kernel
theorem dX2_blockBegins_33 : decode cX2_blockBegins 33 = .ok (.istore_n 1, 1) := by decide +kernel
theorem dX2_blockBegins_34 : decode cX2_blockBegins 34 = .ok (.iinc 2 1, 3) := by decide +kernel
theorem dX2_blockBegins_37 : decode cX2_blockBegins 37 = .ok (.goto (-33), 3) := by decide +kernel
theorem dX2_blockBegins_40 : decode cX2_blockBegins 40 = .ok (.iload_n 1, 1) := by decide +kernel
theorem dX2_blockBegins_41 : decode cX2_blockBegins 41 = .ok (.ireturn, 1) := by decide +kernel
set_option maxRecDepth 20000 in
theorem ggX2_blockSize_X2_setOf : GoodIn wsX2_blockSize wsX2_setOf := goodIn_r _ [4] (by decide +kernel) (by decide +kernel)
set_option maxRecDepth 20000 in
theorem gX2_blockSize_X2_setOf : GoodIn wsX2_blockSize (va_wsS RX2 227 yX2_setOf wsX2_setOf) := goodIn_app (goodIn_of _ (by decide +kernel)) ggX2_blockSize_X2_setOf
theorem dX2_blockSize_0 : decode cX2_blockSize 0 = .ok (.iconst 0, 1) := by decide +kernel
theorem dX2_blockSize_1 : decode cX2_blockSize 1 = .ok (.istore_n 2, 1) := by decide +kernel
theorem dX2_blockSize_2 : decode cX2_blockSize 2 = .ok (.iconst 0, 1) := by decide +kernel
theorem dX2_blockSize_3 : decode cX2_blockSize 3 = .ok (.istore_n 3, 1) := by decide +kernel
theorem dX2_blockSize_4 : decode cX2_blockSize 4 = .ok (.iload_n 3, 1) := by decide +kernel
theorem dX2_blockSize_5 : decode cX2_blockSize 5 = .ok (.iconst 5, 1) := by decide +kernel
theorem dX2_blockSize_6 : decode cX2_blockSize 6 = .ok (.if_icmp .gt 44, 3) := by decide +kernel
theorem dX2_blockSize_9 : decode cX2_blockSize 9 = .ok (.iload_n 1, 1) := by decide +kernel
theorem dX2_blockSize_10 : decode cX2_blockSize 10 = .ok (.iload_n 3, 1) := by decide +kernel
theorem dX2_blockSize_11 : decode cX2_blockSize 11 = .ok (.ishr, 1) := by decide +kernel
theorem dX2_blockSize_12 : decode cX2_blockSize 12 = .ok (.iload_n 3, 1) := by decide +kernel
theorem dX2_blockSize_13 : decode cX2_blockSize 13 = .ok (.ishl, 1) := by decide +kernel
theorem dX2_blockSize_14 : decode cX2_blockSize 14 = .ok (.istore 4, 2) := by decide +kernel
theorem dX2_blockSize_16 : decode cX2_blockSize 16 = .ok (.iload 4, 2) := by decide +kernel
theorem dX2_blockSize_18 : decode cX2_blockSize 18 = .ok (.iload 4, 2) := by decide +kernel
theorem dX2_blockSize_20 : decode cX2_blockSize 20 = .ok (.iconst 1, 1) := by decide +kernel
theorem dX2_blockSize_21 : decode cX2_blockSize 21 = .ok (.iload_n 3, 1) := by decide +kernel
theorem dX2_blockSize_22 : decode cX2_blockSize 22 = .ok (.ishl, 1) := by decide +kernel
theorem dX2_blockSize_23 : decode cX2_blockSize 23 = .ok (.iadd, 1) := by decide +kernel
theorem dX2_blockSize_24 : decode cX2_blockSize 24 = .ok (.iconst 1, 1) := by decide +kernel
theorem dX2_blockSize_25 : decode cX2_blockSize 25 = .ok (.isub, 1) := by decide +kernel
theorem dX2_blockSize_26 : decode cX2_blockSize 26 = .ok (.invokestatic 227, 3) := by decide +kernel
theorem dX2_blockSize_29 : decode cX2_blockSize 29 = .ok (.istore 5, 2) := by decide +kernel
theorem dX2_blockSize_31 : decode cX2_blockSize 31 = .ok (.iload_n 0, 1) := by decide +kernel
theorem dX2_blockSize_32 : decode cX2_blockSize 32 = .ok (.iload 5, 2) := by decide +kernel
theorem dX2_blockSize_34 : decode cX2_blockSize 34 = .ok (.iand, 1) := by decide +kernel
theorem dX2_blockSize_35 : decode cX2_blockSize 35 = .ok (.iload 5, 2) := by decide +kernel
theorem dX2_blockSize_37 : decode cX2_blockSize 37 = .ok (.if_icmp .ne 7, 3) := by decide +kernel
theorem dX2_blockSize_40 : decode cX2_blockSize 40 = .ok (.iconst 1, 1) := by decide +kernel
theorem dX2_blockSize_41 : decode cX2_blockSize 41 = .ok (.iload_n 3, 1) := by decide +kernel
theorem dX2_blockSize_42 : decode cX2_blockSize 42 = .ok (.ishl, 1) := by decide +kernel
theorem dX2_blockSize_43 : decode cX2_blockSize 43 = .ok (.istore_n 2, 1) := by decide +kernel
theorem dX2_blockSize_44 : decode cX2_blockSize 44 = .ok (.iinc 3 1, 3) := by decide +kernel
theorem dX2_blockSize_47 : decode cX2_blockSize 47 = .ok (.goto (-43), 3) := by decide +kernel
theorem dX2_blockSize_50 : decode cX2_blockSize 50 = .ok (.iload_n 2, 1) := by decide +kernel
theorem dX2_blockSize_51 : decode cX2_blockSize 51 = .ok (.ireturn, 1) := by decide +kernel
set_option maxRecDepth 20000 in
theorem ggX2_blockMask_X2_blockSize : GoodIn wsX2_blockMask wsX2_blockSize := goodIn_r _ [4, 5, 6, 3, 7] (by decide +kernel) (by decide +kernel)
set_option maxRecDepth 20000 in
theorem gX2_blockMask_X2_blockSize : GoodIn wsX2_blockMask (va_wsS RX2 223 yX2_blockSize wsX2_blockSize) := goodIn_app (goodIn_of _ (by decide +kernel)) ggX2_blockMask_X2_blockSize
theorem dX2_blockMask_0 : decode cX2_blockMask 0 = .ok (.iload_n 2, 1) := by decide +kernel
theorem dX2_blockMask_1 : decode cX2_blockMask 1 = .ok (.iconst 1, 1) := by decide +kernel
theorem dX2_blockMask_2 : decode cX2_blockMask 2 = .ok (.isub, 1) := by decide +kernel
theorem dX2_blockMask_3 : decode cX2_blockMask 3 = .ok (.iload_n 0, 1) := by decide +kernel
theorem dX2_blockMask_4 : decode cX2_blockMask 4 = .ok (.iload_n 1, 1) := by decide +kernel
theorem dX2_blockMask_5 : decode cX2_blockMask 5 = .ok (.invokestatic 223, 3) := by decide +kernel
theorem dX2_blockMask_8 : decode cX2_blockMask 8 = .ok (.ineg, 1) := by decide +kernel
theorem dX2_blockMask_9 : decode cX2_blockMask 9 = .ok (.iand, 1) := by decide +kernel
theorem dX2_blockMask_10 : decode cX2_blockMask 10 = .ok (.ireturn, 1) := by decide +kernel
theorem dX2_setOf_0 : decode cX2_setOf 0 = .ok (.iconst (-1), 1) := by decide +kernel
theorem dX2_setOf_1 : decode cX2_setOf 1 = .ok (.iload_n 0, 1) := by decide +kernel
theorem dX2_setOf_2 : decode cX2_setOf 2 = .ok (.ishl, 1) := by decide +kernel
theorem dX2_setOf_3 : decode cX2_setOf 3 = .ok (.iconst (-1), 1) := by decide +kernel
theorem dX2_setOf_4 : decode cX2_setOf 4 = .ok (.bipush 31, 2) := by decide +kernel
theorem dX2_setOf_6 : decode cX2_setOf 6 = .ok (.iload_n 1, 1) := by decide +kernel
theorem dX2_setOf_7 : decode cX2_setOf 7 = .ok (.isub, 1) := by decide +kernel
theorem dX2_setOf_8 : decode cX2_setOf 8 = .ok (.iushr, 1) := by decide +kernel
theorem dX2_setOf_9 : decode cX2_setOf 9 = .ok (.iand, 1) := by decide +kernel
theorem dX2_setOf_10 : decode cX2_setOf 10 = .ok (.ireturn, 1) := by decide +kernel
theorem dX2_holds_0 : decode cX2_holds 0 = .ok (.iload_n 0, 1) := by decide +kernel
theorem dX2_holds_1 : decode cX2_holds 1 = .ok (.iload_n 1, 1) := by decide +kernel
theorem dX2_holds_2 : decode cX2_holds 2 = .ok (.ishr, 1) := by decide +kernel
theorem dX2_holds_3 : decode cX2_holds 3 = .ok (.iconst 1, 1) := by decide +kernel
theorem dX2_holds_4 : decode cX2_holds 4 = .ok (.iand, 1) := by decide +kernel
theorem dX2_holds_5 : decode cX2_holds 5 = .ok (.iconst 1, 1) := by decide +kernel
theorem dX2_holds_6 : decode cX2_holds 6 = .ok (.if_icmp .ne 7, 3) := by decide +kernel
theorem dX2_holds_9 : decode cX2_holds 9 = .ok (.iconst 1, 1) := by decide +kernel
theorem dX2_holds_10 : decode cX2_holds 10 = .ok (.goto 4, 3) := by decide +kernel
theorem dX2_holds_13 : decode cX2_holds 13 = .ok (.iconst 0, 1) := by decide +kernel
theorem dX2_holds_14 : decode cX2_holds 14 = .ok (.ireturn, 1) := by decide +kernel
theorem dX3_init_0 : decode cX3_init 0 = .ok (.aload_n 0, 1) := by decide +kernel
theorem dX3_init_1 : decode cX3_init 1 = .ok (.invokespecial 1, 3) := by decide +kernel
theorem dX3_init_4 : decode cX3_init 4 = .ok (.aload_n 0, 1) := by decide +kernel
theorem dX3_init_5 : decode cX3_init 5 = .ok (.bipush 112, 2) := by decide +kernel
theorem dX3_init_7 : decode cX3_init 7 = .ok (.newarray .int, 2) := by decide +kernel
theorem dX3_init_9 : decode cX3_init 9 = .ok (.putfield 7, 3) := by decide +kernel
theorem dX3_init_12 : decode cX3_init 12 = .ok (.aload_n 0, 1) := by decide +kernel
theorem dX3_init_13 : decode cX3_init 13 = .ok (.sipush 128, 3) := by decide +kernel
theorem dX3_init_16 : decode cX3_init 16 = .ok (.newarray .int, 2) := by decide +kernel
theorem dX3_init_18 : decode cX3_init 18 = .ok (.putfield 13, 3) := by decide +kernel
theorem dX3_init_21 : decode cX3_init 21 = .ok (.aload_n 0, 1) := by decide +kernel
theorem dX3_init_22 : decode cX3_init 22 = .ok (.bipush 7, 2) := by decide +kernel
theorem dX3_init_24 : decode cX3_init 24 = .ok (.newarray .int, 2) := by decide +kernel
theorem dX3_init_26 : decode cX3_init 26 = .ok (.putfield 16, 3) := by decide +kernel
theorem dX3_init_29 : decode cX3_init 29 = .ok (.aload_n 0, 1) := by decide +kernel
theorem dX3_init_30 : decode cX3_init 30 = .ok (.bipush 24, 2) := by decide +kernel
theorem dX3_init_32 : decode cX3_init 32 = .ok (.newarray .int, 2) := by decide +kernel
theorem dX3_init_34 : decode cX3_init 34 = .ok (.putfield 19, 3) := by decide +kernel
theorem dX3_init_37 : decode cX3_init 37 = .ok (.aload_n 0, 1) := by decide +kernel
theorem dX3_init_38 : decode cX3_init 38 = .ok (.bipush 24, 2) := by decide +kernel
theorem dX3_init_40 : decode cX3_init 40 = .ok (.newarray .int, 2) := by decide +kernel
theorem dX3_init_42 : decode cX3_init 42 = .ok (.putfield 22, 3) := by decide +kernel
theorem dX3_init_45 : decode cX3_init 45 = .ok (.return_, 1) := by decide +kernel
theorem dX3_thrown_0 : decode cX3_thrown 0 = .ok (.aload_n 0, 1) := by decide +kernel
theorem dX3_thrown_1 : decode cX3_thrown 1 = .ok (.getfield 25, 3) := by decide +kernel
theorem dX3_thrown_4 : decode cX3_thrown 4 = .ok (.ireturn, 1) := by decide +kernel
theorem dX3_holds_0 : decode cX3_holds 0 = .ok (.aload_n 0, 1) := by decide +kernel
theorem dX3_holds_1 : decode cX3_holds 1 = .ok (.iload_n 1, 1) := by decide +kernel
theorem dX3_holds_2 : decode cX3_holds 2 = .ok (.putfield 25, 3) := by decide +kernel
theorem dX3_holds_5 : decode cX3_holds 5 = .ok (.iload_n 1, 1) := by decide +kernel
theorem dX3_holds_6 : decode cX3_holds 6 = .ok (.ifCond .ne 7, 3) := by decide +kernel
theorem dX3_holds_9 : decode cX3_holds 9 = .ok (.iconst 1, 1) := by decide +kernel
theorem dX3_holds_10 : decode cX3_holds 10 = .ok (.goto 4, 3) := by decide +kernel
theorem dX3_holds_13 : decode cX3_holds 13 = .ok (.iconst 0, 1) := by decide +kernel
theorem dX3_holds_14 : decode cX3_holds 14 = .ok (.ireturn, 1) := by decide +kernel
theorem dX3_in_0 : decode cX3_in 0 = .ok (.iload_n 0, 1) := by decide +kernel
theorem dX3_in_1 : decode cX3_in 1 = .ok (.iload_n 1, 1) := by decide +kernel
theorem dX3_in_2 : decode cX3_in 2 = .ok (.if_icmp .lt 12, 3) := by decide +kernel
theorem dX3_in_5 : decode cX3_in 5 = .ok (.iload_n 0, 1) := by decide +kernel
theorem dX3_in_6 : decode cX3_in 6 = .ok (.iload_n 2, 1) := by decide +kernel
theorem dX3_in_7 : decode cX3_in 7 = .ok (.if_icmp .gt 7, 3) := by decide +kernel
theorem dX3_in_10 : decode cX3_in 10 = .ok (.iconst 1, 1) := by decide +kernel
theorem dX3_in_11 : decode cX3_in 11 = .ok (.goto 4, 3) := by decide +kernel
theorem dX3_in_14 : decode cX3_in 14 = .ok (.iconst 0, 1) := by decide +kernel
theorem dX3_in_15 : decode cX3_in 15 = .ok (.ireturn, 1) := by decide +kernel
set_option maxRecDepth 20000 in
theorem ggX3_isPlace_X3_in : GoodIn wsX3_isPlace wsX3_in := goodIn_r _ [5] (by decide +kernel) (by decide +kernel)
set_option maxRecDepth 20000 in
theorem gX3_isPlace_X3_in : GoodIn wsX3_isPlace (va_wsS RX3 32 yX3_in wsX3_in) := goodIn_app (goodIn_of _ (by decide +kernel)) ggX3_isPlace_X3_in
theorem dX3_isPlace_0 : decode cX3_isPlace 0 = .ok (.iload_n 1, 1) := by decide +kernel
theorem dX3_isPlace_1 : decode cX3_isPlace 1 = .ok (.iconst 0, 1) := by decide +kernel
theorem dX3_isPlace_2 : decode cX3_isPlace 2 = .ok (.aload_n 0, 1) := by decide +kernel
theorem dX3_isPlace_3 : decode cX3_isPlace 3 = .ok (.getfield 29, 3) := by decide +kernel
theorem dX3_isPlace_6 : decode cX3_isPlace 6 = .ok (.iconst 1, 1) := by decide +kernel
theorem dX3_isPlace_7 : decode cX3_isPlace 7 = .ok (.isub, 1) := by decide +kernel
theorem dX3_isPlace_8 : decode cX3_isPlace 8 = .ok (.invokestatic 32, 3) := by decide +kernel
theorem dX3_isPlace_11 : decode cX3_isPlace 11 = .ok (.ireturn, 1) := by decide +kernel
theorem dX3_of_0 : decode cX3_of 0 = .ok (.aload_n 0, 1) := by decide +kernel
theorem dX3_of_1 : decode cX3_of 1 = .ok (.getfield 7, 3) := by decide +kernel
theorem dX3_of_4 : decode cX3_of 4 = .ok (.bipush 7, 2) := by decide +kernel
theorem dX3_of_6 : decode cX3_of 6 = .ok (.iload_n 1, 1) := by decide +kernel
theorem dX3_of_7 : decode cX3_of 7 = .ok (.imul, 1) := by decide +kernel
theorem dX3_of_8 : decode cX3_of 8 = .ok (.iload_n 2, 1) := by decide +kernel
theorem dX3_of_9 : decode cX3_of 9 = .ok (.iadd, 1) := by decide +kernel
theorem dX3_of_10 : decode cX3_of 10 = .ok (.iaload, 1) := by decide +kernel
theorem dX3_of_11 : decode cX3_of 11 = .ok (.ireturn, 1) := by decide +kernel
theorem dX3_many_0 : decode cX3_many 0 = .ok (.iconst 0, 1) := by decide +kernel
theorem dX3_many_1 : decode cX3_many 1 = .ok (.istore_n 1, 1) := by decide +kernel
theorem dX3_many_2 : decode cX3_many 2 = .ok (.iload_n 0, 1) := by decide +kernel
theorem dX3_many_3 : decode cX3_many 3 = .ok (.istore_n 2, 1) := by decide +kernel
theorem dX3_many_4 : decode cX3_many 4 = .ok (.iload_n 2, 1) := by decide +kernel
theorem dX3_many_5 : decode cX3_many 5 = .ok (.ifCond .eq 15, 3) := by decide +kernel
theorem dX3_many_8 : decode cX3_many 8 = .ok (.iinc 1 1, 3) := by decide +kernel
theorem dX3_many_11 : decode cX3_many 11 = .ok (.iload_n 2, 1) := by decide +kernel
theorem dX3_many_12 : decode cX3_many 12 = .ok (.iload_n 2, 1) := by decide +kernel
theorem dX3_many_13 : decode cX3_many 13 = .ok (.iconst 1, 1) := by decide +kernel
theorem dX3_many_14 : decode cX3_many 14 = .ok (.isub, 1) := by decide +kernel
theorem dX3_many_15 : decode cX3_many 15 = .ok (.iand, 1) := by decide +kernel
theorem dX3_many_16 : decode cX3_many 16 = .ok (.istore_n 2, 1) := by decide +kernel
theorem dX3_many_17 : decode cX3_many 17 = .ok (.goto (-13), 3) := by decide +kernel
theorem dX3_many_20 : decode cX3_many 20 = .ok (.iload_n 1, 1) := by decide +kernel
theorem dX3_many_21 : decode cX3_many 21 = .ok (.ireturn, 1) := by decide +kernel
set_option maxRecDepth 20000 in
theorem ggX3_matches_X3_of : GoodIn wsX3_matches wsX3_of := goodIn_r _ [5, 6, 10, 11, 12, 13, 14, 15, 16, 17, 18, 19] (by decide +kernel) (by decide +kernel)
set_option maxRecDepth 20000 in
theorem gX3_matches_X3_of : GoodIn wsX3_matches (wsV RX3 36 RX3 yX3_of wsX3_of) := goodIn_app (goodIn_of _ (by decide +kernel)) ggX3_matches_X3_of
set_option maxRecDepth 20000 in
theorem ggX3_matches_X3_in : GoodIn wsX3_matches wsX3_in := goodIn_r _ [9] (by decide +kernel) (by decide +kernel)
set_option maxRecDepth 20000 in
theorem gX3_matches_X3_in : GoodIn wsX3_matches (va_wsS RX3 32 yX3_in wsX3_in) := goodIn_app (goodIn_of _ (by decide +kernel)) ggX3_matches_X3_in
theorem dX3_matches_0 : decode cX3_matches 0 = .ok (.iload_n 2, 1) := by decide +kernel
theorem dX3_matches_1 : decode cX3_matches 1 = .ok (.aload_n 0, 1) := by decide +kernel
theorem dX3_matches_2 : decode cX3_matches 2 = .ok (.iload_n 1, 1) := by decide +kernel
theorem dX3_matches_3 : decode cX3_matches 3 = .ok (.iconst 0, 1) := by decide +kernel
theorem dX3_matches_4 : decode cX3_matches 4 = .ok (.invokevirtual 36, 3) := by decide +kernel
theorem dX3_matches_7 : decode cX3_matches 7 = .ok (.aload_n 0, 1) := by decide +kernel
theorem dX3_matches_8 : decode cX3_matches 8 = .ok (.iload_n 1, 1) := by decide +kernel
theorem dX3_matches_9 : decode cX3_matches 9 = .ok (.iconst 1, 1) := by decide +kernel
theorem dX3_matches_10 : decode cX3_matches 10 = .ok (.invokevirtual 36, 3) := by decide +kernel
theorem dX3_matches_13 : decode cX3_matches 13 = .ok (.invokestatic 32, 3) := by decide +kernel
theorem dX3_matches_16 : decode cX3_matches 16 = .ok (.ifCond .eq 21, 3) := by decide +kernel
theorem dX3_matches_19 : decode cX3_matches 19 = .ok (.aload_n 0, 1) := by decide +kernel
theorem dX3_matches_20 : decode cX3_matches 20 = .ok (.iload_n 1, 1) := by decide +kernel
theorem dX3_matches_21 : decode cX3_matches 21 = .ok (.iconst 4, 1) := by decide +kernel
theorem dX3_matches_22 : decode cX3_matches 22 = .ok (.invokevirtual 36, 3) := by decide +kernel
theorem dX3_matches_25 : decode cX3_matches 25 = .ok (.iload_n 3, 1) := by decide +kernel
theorem dX3_matches_26 : decode cX3_matches 26 = .ok (.ishr, 1) := by decide +kernel
theorem dX3_matches_27 : decode cX3_matches 27 = .ok (.iconst 1, 1) := by decide +kernel
theorem dX3_matches_28 : decode cX3_matches 28 = .ok (.iand, 1) := by decide +kernel
theorem dX3_matches_29 : decode cX3_matches 29 = .ok (.iconst 1, 1) := by decide +kernel
theorem dX3_matches_30 : decode cX3_matches 30 = .ok (.if_icmp .ne 7, 3) := by decide +kernel
theorem dX3_matches_33 : decode cX3_matches 33 = .ok (.iconst 1, 1) := by decide +kernel
theorem dX3_matches_34 : decode cX3_matches 34 = .ok (.goto 4, 3) := by decide +kernel
theorem dX3_matches_37 : decode cX3_matches 37 = .ok (.iconst 0, 1) := by decide +kernel
theorem dX3_matches_38 : decode cX3_matches 38 = .ok (.istore 4, 2) := by decide +kernel
theorem dX3_matches_40 : decode cX3_matches 40 = .ok (.iload 4, 2) := by decide +kernel
theorem dX3_matches_42 : decode cX3_matches 42 = .ok (.ifCond .eq 26, 3) := by decide +kernel
theorem dX3_matches_45 : decode cX3_matches 45 = .ok (.iconst (-1), 1) := by decide +kernel
theorem dX3_matches_46 : decode cX3_matches 46 = .ok (.aload_n 0, 1) := by decide +kernel
theorem dX3_matches_47 : decode cX3_matches 47 = .ok (.iload_n 1, 1) := by decide +kernel
theorem dX3_matches_48 : decode cX3_matches 48 = .ok (.iconst 2, 1) := by decide +kernel
theorem dX3_matches_49 : decode cX3_matches 49 = .ok (.invokevirtual 36, 3) := by decide +kernel
theorem dX3_matches_52 : decode cX3_matches 52 = .ok (.ishl, 1) := by decide +kernel
theorem dX3_matches_53 : decode cX3_matches 53 = .ok (.iconst (-1), 1) := by decide +kernel
theorem dX3_matches_54 : decode cX3_matches 54 = .ok (.bipush 31, 2) := by decide +kernel
theorem dX3_matches_56 : decode cX3_matches 56 = .ok (.aload_n 0, 1) := by decide +kernel
theorem dX3_matches_57 : decode cX3_matches 57 = .ok (.iload_n 1, 1) := by decide +kernel
theorem dX3_matches_58 : decode cX3_matches 58 = .ok (.iconst 3, 1) := by decide +kernel
theorem dX3_matches_59 : decode cX3_matches 59 = .ok (.invokevirtual 36, 3) := by decide +kernel
theorem dX3_matches_62 : decode cX3_matches 62 = .ok (.isub, 1) := by decide +kernel
theorem dX3_matches_63 : decode cX3_matches 63 = .ok (.iushr, 1) := by decide +kernel
theorem dX3_matches_64 : decode cX3_matches 64 = .ok (.iand, 1) := by decide +kernel
theorem dX3_matches_65 : decode cX3_matches 65 = .ok (.goto 4, 3) := by decide +kernel
theorem dX3_matches_68 : decode cX3_matches 68 = .ok (.iconst 0, 1) := by decide +kernel
theorem dX3_matches_69 : decode cX3_matches 69 = .ok (.ireturn, 1) := by decide +kernel
set_option maxRecDepth 20000 in
theorem ggX3_permittedOf_X3_matches : GoodIn wsX3_permittedOf wsX3_matches := goodIn_r _ [6, 7, 8, 9, 5, 10, 11, 12, 13, 14, 15, 16, 17, 18, 19, 20, 21, 22, 23, 24] (by decide +kernel) (by decide +kernel)
set_option maxRecDepth 20000 in
theorem gX3_permittedOf_X3_matches : GoodIn wsX3_permittedOf (wsV RX3 40 RX3 yX3_matches wsX3_matches) := goodIn_app (goodIn_of _ (by decide +kernel)) ggX3_permittedOf_X3_matches
set_option maxRecDepth 20000 in
theorem ggX3_permittedOf_X3_of : GoodIn wsX3_permittedOf wsX3_of := goodIn_r _ [10, 11, 15, 16, 17, 18, 19, 20, 21, 22, 23, 24] (by decide +kernel) (by decide +kernel)
set_option maxRecDepth 20000 in
theorem gX3_permittedOf_X3_of : GoodIn wsX3_permittedOf (wsV RX3 36 RX3 yX3_of wsX3_of) := goodIn_app (goodIn_of _ (by decide +kernel)) ggX3_permittedOf_X3_of
theorem dX3_permittedOf_0 : decode cX3_permittedOf 0 = .ok (.iconst (-1), 1) := by decide +kernel
theorem dX3_permittedOf_1 : decode cX3_permittedOf 1 = .ok (.istore 4, 2) := by decide +kernel
theorem dX3_permittedOf_3 : decode cX3_permittedOf 3 = .ok (.iconst 0, 1) := by decide +kernel
theorem dX3_permittedOf_4 : decode cX3_permittedOf 4 = .ok (.istore 5, 2) := by decide +kernel
theorem dX3_permittedOf_6 : decode cX3_permittedOf 6 = .ok (.iconst 0, 1) := by decide +kernel
theorem dX3_permittedOf_7 : decode cX3_permittedOf 7 = .ok (.istore 6, 2) := by decide +kernel
theorem dX3_permittedOf_9 : decode cX3_permittedOf 9 = .ok (.iload 6, 2) := by decide +kernel
theorem dX3_permittedOf_11 : decode cX3_permittedOf 11 = .ok (.aload_n 0, 1) := by decide +kernel
theorem dX3_permittedOf_12 : decode cX3_permittedOf 12 = .ok (.getfield 29, 3) := by decide +kernel
theorem dX3_permittedOf_15 : decode cX3_permittedOf 15 = .ok (.if_icmp .ge 68, 3) := by decide +kernel
theorem dX3_permittedOf_18 : decode cX3_permittedOf 18 = .ok (.iload 4, 2) := by decide +kernel
theorem dX3_permittedOf_20 : decode cX3_permittedOf 20 = .ok (.ifCond .eq 63, 3) := by decide +kernel
theorem dX3_permittedOf_23 : decode cX3_permittedOf 23 = .ok (.iload 6, 2) := by decide +kernel
theorem dX3_permittedOf_25 : decode cX3_permittedOf 25 = .ok (.iload_n 3, 1) := by decide +kernel
theorem dX3_permittedOf_26 : decode cX3_permittedOf 26 = .ok (.if_icmp .ne 7, 3) := by decide +kernel
theorem dX3_permittedOf_29 : decode cX3_permittedOf 29 = .ok (.iconst 0, 1) := by decide +kernel
theorem dX3_permittedOf_30 : decode cX3_permittedOf 30 = .ok (.goto 14, 3) := by decide +kernel
theorem dX3_permittedOf_33 : decode cX3_permittedOf 33 = .ok (.aload_n 0, 1) := by decide +kernel
theorem dX3_permittedOf_34 : decode cX3_permittedOf 34 = .ok (.iload 6, 2) := by decide +kernel
theorem dX3_permittedOf_36 : decode cX3_permittedOf 36 = .ok (.iload_n 1, 1) := by decide +kernel
theorem dX3_permittedOf_37 : decode cX3_permittedOf 37 = .ok (.iload_n 2, 1) := by decide +kernel
theorem dX3_permittedOf_38 : decode cX3_permittedOf 38 = .ok (.invokevirtual 40, 3) := by decide +kernel
theorem dX3_permittedOf_41 : decode cX3_permittedOf 41 = .ok (.iload 4, 2) := by decide +kernel
theorem dX3_permittedOf_43 : decode cX3_permittedOf 43 = .ok (.iand, 1) := by decide +kernel
theorem dX3_permittedOf_44 : decode cX3_permittedOf 44 = .ok (.istore 7, 2) := by decide +kernel
theorem dX3_permittedOf_46 : decode cX3_permittedOf 46 = .ok (.iload 5, 2) := by decide +kernel
theorem dX3_permittedOf_48 : decode cX3_permittedOf 48 = .ok (.aload_n 0, 1) := by decide +kernel
theorem dX3_permittedOf_49 : decode cX3_permittedOf 49 = .ok (.iload 6, 2) := by decide +kernel
theorem dX3_permittedOf_51 : decode cX3_permittedOf 51 = .ok (.iconst 5, 1) := by decide +kernel
theorem dX3_permittedOf_52 : decode cX3_permittedOf 52 = .ok (.invokevirtual 36, 3) := by decide +kernel
theorem dX3_permittedOf_55 : decode cX3_permittedOf 55 = .ok (.iconst 1, 1) := by decide +kernel
theorem dX3_permittedOf_56 : decode cX3_permittedOf 56 = .ok (.if_icmp .ne 8, 3) := by decide +kernel
theorem dX3_permittedOf_59 : decode cX3_permittedOf 59 = .ok (.iload 7, 2) := by decide +kernel
theorem dX3_permittedOf_61 : decode cX3_permittedOf 61 = .ok (.goto 4, 3) := by decide +kernel
theorem dX3_permittedOf_64 : decode cX3_permittedOf 64 = .ok (.iconst 0, 1) := by decide +kernel
theorem dX3_permittedOf_65 : decode cX3_permittedOf 65 = .ok (.ior, 1) := by decide +kernel
theorem dX3_permittedOf_66 : decode cX3_permittedOf 66 = .ok (.istore 5, 2) := by decide +kernel
theorem dX3_permittedOf_68 : decode cX3_permittedOf 68 = .ok (.iload 4, 2) := by decide +kernel
theorem dX3_permittedOf_70 : decode cX3_permittedOf 70 = .ok (.iload 7, 2) := by decide +kernel
theorem dX3_permittedOf_72 : decode cX3_permittedOf 72 = .ok (.iconst (-1), 1) := by decide +kernel
theorem dX3_permittedOf_73 : decode cX3_permittedOf 73 = .ok (.ixor, 1) := by decide +kernel
theorem dX3_permittedOf_74 : decode cX3_permittedOf 74 = .ok (.iand, 1) := by decide +kernel
theorem dX3_permittedOf_75 : decode cX3_permittedOf 75 = .ok (.istore 4, 2) := by decide +kernel
theorem dX3_permittedOf_77 : decode cX3_permittedOf 77 = .ok (.iinc 6 1, 3) := by decide +kernel
theorem dX3_permittedOf_80 : decode cX3_permittedOf 80 = .ok (.goto (-71), 3) := by decide +kernel
theorem dX3_permittedOf_83 : decode cX3_permittedOf 83 = .ok (.iload 5, 2) := by decide +kernel
theorem dX3_permittedOf_85 : decode cX3_permittedOf 85 = .ok (.ireturn, 1) := by decide +kernel
set_option maxRecDepth 20000 in
theorem ggX3_keepsPermitted_X3_permittedOf : GoodIn wsX3_keepsPermitted wsX3_permittedOf := goodIn_r _ [6, 7, 8, 9, 10, 5, 11, 12, 13, 14, 15, 16, 17, 18, 19, 20, 21, 22, 23, 24, 25, 26, 27, 28, 29] (by decide +kernel) (by decide +kernel)
set_option maxRecDepth 20000 in
theorem gX3_keepsPermitted_X3_permittedOf : GoodIn wsX3_keepsPermitted (wsV RX3 44 RX3 yX3_permittedOf wsX3_permittedOf) := goodIn_app (goodIn_of _ (by decide +kernel)) ggX3_keepsPermitted_X3_permittedOf
theorem dX3_keepsPermitted_0 : decode cX3_keepsPermitted 0 = .ok (.iconst 0, 1) := by decide +kernel
theorem dX3_keepsPermitted_1 : decode cX3_keepsPermitted 1 = .ok (.istore_n 1, 1) := by decide +kernel
theorem dX3_keepsPermitted_2 : decode cX3_keepsPermitted 2 = .ok (.iload_n 1, 1) := by decide +kernel
theorem dX3_keepsPermitted_3 : decode cX3_keepsPermitted 3 = .ok (.sipush 128, 3) := by decide +kernel
theorem dX3_keepsPermitted_6 : decode cX3_keepsPermitted 6 = .ok (.if_icmp .ge 26, 3) := by decide +kernel
theorem dX3_keepsPermitted_9 : decode cX3_keepsPermitted 9 = .ok (.aload_n 0, 1) := by decide +kernel
theorem dX3_keepsPermitted_10 : decode cX3_keepsPermitted 10 = .ok (.getfield 13, 3) := by decide +kernel
theorem dX3_keepsPermitted_13 : decode cX3_keepsPermitted 13 = .ok (.iload_n 1, 1) := by decide +kernel
theorem dX3_keepsPermitted_14 : decode cX3_keepsPermitted 14 = .ok (.aload_n 0, 1) := by decide +kernel
theorem dX3_keepsPermitted_15 : decode cX3_keepsPermitted 15 = .ok (.iload_n 1, 1) := by decide +kernel
theorem dX3_keepsPermitted_16 : decode cX3_keepsPermitted 16 = .ok (.iconst 4, 1) := by decide +kernel
theorem dX3_keepsPermitted_17 : decode cX3_keepsPermitted 17 = .ok (.idiv, 1) := by decide +kernel
theorem dX3_keepsPermitted_18 : decode cX3_keepsPermitted 18 = .ok (.iload_n 1, 1) := by decide +kernel
theorem dX3_keepsPermitted_19 : decode cX3_keepsPermitted 19 = .ok (.iconst 4, 1) := by decide +kernel
theorem dX3_keepsPermitted_20 : decode cX3_keepsPermitted 20 = .ok (.irem, 1) := by decide +kernel
theorem dX3_keepsPermitted_21 : decode cX3_keepsPermitted 21 = .ok (.iconst (-1), 1) := by decide +kernel
theorem dX3_keepsPermitted_22 : decode cX3_keepsPermitted 22 = .ok (.invokevirtual 44, 3) := by decide +kernel
theorem dX3_keepsPermitted_25 : decode cX3_keepsPermitted 25 = .ok (.iastore, 1) := by decide +kernel
theorem dX3_keepsPermitted_26 : decode cX3_keepsPermitted 26 = .ok (.iinc 1 1, 3) := by decide +kernel
theorem dX3_keepsPermitted_29 : decode cX3_keepsPermitted 29 = .ok (.goto (-27), 3) := by decide +kernel
theorem dX3_keepsPermitted_32 : decode cX3_keepsPermitted 32 = .ok (.return_, 1) := by decide +kernel
set_option maxRecDepth 20000 in
theorem ggX3_changed_X3_permittedOf : GoodIn wsX3_changed wsX3_permittedOf := goodIn_r _ [6, 7, 8, 9, 10, 5, 11, 12, 13, 14, 15, 16, 17, 18, 19, 23, 24, 25, 26, 27, 28, 29, 30, 31, 32] (by decide +kernel) (by decide +kernel)
set_option maxRecDepth 20000 in
theorem gX3_changed_X3_permittedOf : GoodIn wsX3_changed (wsV RX3 44 RX3 yX3_permittedOf wsX3_permittedOf) := goodIn_app (goodIn_of _ (by decide +kernel)) ggX3_changed_X3_permittedOf
set_option maxRecDepth 20000 in
theorem ggX3_changed_X3_many : GoodIn wsX3_changed wsX3_many := goodIn_r _ [22] (by decide +kernel) (by decide +kernel)
set_option maxRecDepth 20000 in
theorem gX3_changed_X3_many : GoodIn wsX3_changed (va_wsS RX3 47 yX3_many wsX3_many) := goodIn_app (goodIn_of _ (by decide +kernel)) ggX3_changed_X3_many
theorem dX3_changed_0 : decode cX3_changed 0 = .ok (.iconst 0, 1) := by decide +kernel
theorem dX3_changed_1 : decode cX3_changed 1 = .ok (.istore_n 1, 1) := by decide +kernel
theorem dX3_changed_2 : decode cX3_changed 2 = .ok (.iconst 0, 1) := by decide +kernel
theorem dX3_changed_3 : decode cX3_changed 3 = .ok (.istore_n 2, 1) := by decide +kernel
theorem dX3_changed_4 : decode cX3_changed 4 = .ok (.iload_n 2, 1) := by decide +kernel
theorem dX3_changed_5 : decode cX3_changed 5 = .ok (.sipush 128, 3) := by decide +kernel
theorem dX3_changed_8 : decode cX3_changed 8 = .ok (.if_icmp .ge 33, 3) := by decide +kernel
theorem dX3_changed_11 : decode cX3_changed 11 = .ok (.iload_n 1, 1) := by decide +kernel
theorem dX3_changed_12 : decode cX3_changed 12 = .ok (.aload_n 0, 1) := by decide +kernel
theorem dX3_changed_13 : decode cX3_changed 13 = .ok (.getfield 13, 3) := by decide +kernel
theorem dX3_changed_16 : decode cX3_changed 16 = .ok (.iload_n 2, 1) := by decide +kernel
theorem dX3_changed_17 : decode cX3_changed 17 = .ok (.iaload, 1) := by decide +kernel
theorem dX3_changed_18 : decode cX3_changed 18 = .ok (.aload_n 0, 1) := by decide +kernel
theorem dX3_changed_19 : decode cX3_changed 19 = .ok (.iload_n 2, 1) := by decide +kernel
theorem dX3_changed_20 : decode cX3_changed 20 = .ok (.iconst 4, 1) := by decide +kernel
theorem dX3_changed_21 : decode cX3_changed 21 = .ok (.idiv, 1) := by decide +kernel
theorem dX3_changed_22 : decode cX3_changed 22 = .ok (.iload_n 2, 1) := by decide +kernel
theorem dX3_changed_23 : decode cX3_changed 23 = .ok (.iconst 4, 1) := by decide +kernel
theorem dX3_changed_24 : decode cX3_changed 24 = .ok (.irem, 1) := by decide +kernel
theorem dX3_changed_25 : decode cX3_changed 25 = .ok (.iconst (-1), 1) := by decide +kernel
theorem dX3_changed_26 : decode cX3_changed 26 = .ok (.invokevirtual 44, 3) := by decide +kernel
theorem dX3_changed_29 : decode cX3_changed 29 = .ok (.ixor, 1) := by decide +kernel
theorem dX3_changed_30 : decode cX3_changed 30 = .ok (.invokestatic 47, 3) := by decide +kernel
theorem dX3_changed_33 : decode cX3_changed 33 = .ok (.iadd, 1) := by decide +kernel
theorem dX3_changed_34 : decode cX3_changed 34 = .ok (.istore_n 1, 1) := by decide +kernel
theorem dX3_changed_35 : decode cX3_changed 35 = .ok (.iinc 2 1, 3) := by decide +kernel
theorem dX3_changed_38 : decode cX3_changed 38 = .ok (.goto (-34), 3) := by decide +kernel
theorem dX3_changed_41 : decode cX3_changed 41 = .ok (.iload_n 1, 1) := by decide +kernel
theorem dX3_changed_42 : decode cX3_changed 42 = .ok (.ireturn, 1) := by decide +kernel
set_option maxRecDepth 20000 in
theorem ggX3_takesOut_X3_of : GoodIn wsX3_takesOut wsX3_of := goodIn_r _ [8, 3, 9, 10, 11, 12, 13, 14, 15, 16, 17, 18] (by decide +kernel) (by decide +kernel)
set_option maxRecDepth 20000 in
theorem gX3_takesOut_X3_of : GoodIn wsX3_takesOut (wsV RX3 36 RX3 yX3_of wsX3_of) := goodIn_app (goodIn_of _ (by decide +kernel)) ggX3_takesOut_X3_of
theorem dX3_takesOut_0 : decode cX3_takesOut 0 = .ok (.iconst 0, 1) := by decide +kernel
theorem dX3_takesOut_1 : decode cX3_takesOut 1 = .ok (.istore_n 2, 1) := by decide +kernel
theorem dX3_takesOut_2 : decode cX3_takesOut 2 = .ok (.iload_n 2, 1) := by decide +kernel
theorem dX3_takesOut_3 : decode cX3_takesOut 3 = .ok (.bipush 7, 2) := by decide +kernel
theorem dX3_takesOut_5 : decode cX3_takesOut 5 = .ok (.if_icmp .ge 21, 3) := by decide +kernel
theorem dX3_takesOut_8 : decode cX3_takesOut 8 = .ok (.aload_n 0, 1) := by decide +kernel
theorem dX3_takesOut_9 : decode cX3_takesOut 9 = .ok (.getfield 16, 3) := by decide +kernel
theorem dX3_takesOut_12 : decode cX3_takesOut 12 = .ok (.iload_n 2, 1) := by decide +kernel
theorem dX3_takesOut_13 : decode cX3_takesOut 13 = .ok (.aload_n 0, 1) := by decide +kernel
theorem dX3_takesOut_14 : decode cX3_takesOut 14 = .ok (.iload_n 1, 1) := by decide +kernel
theorem dX3_takesOut_15 : decode cX3_takesOut 15 = .ok (.iload_n 2, 1) := by decide +kernel
theorem dX3_takesOut_16 : decode cX3_takesOut 16 = .ok (.invokevirtual 36, 3) := by decide +kernel
theorem dX3_takesOut_19 : decode cX3_takesOut 19 = .ok (.iastore, 1) := by decide +kernel
theorem dX3_takesOut_20 : decode cX3_takesOut 20 = .ok (.iinc 2 1, 3) := by decide +kernel
theorem dX3_takesOut_23 : decode cX3_takesOut 23 = .ok (.goto (-21), 3) := by decide +kernel
theorem dX3_takesOut_26 : decode cX3_takesOut 26 = .ok (.aload_n 0, 1) := by decide +kernel
theorem dX3_takesOut_27 : decode cX3_takesOut 27 = .ok (.dup, 1) := by decide +kernel
theorem dX3_takesOut_28 : decode cX3_takesOut 28 = .ok (.getfield 29, 3) := by decide +kernel
theorem dX3_takesOut_31 : decode cX3_takesOut 31 = .ok (.iconst 1, 1) := by decide +kernel
theorem dX3_takesOut_32 : decode cX3_takesOut 32 = .ok (.isub, 1) := by decide +kernel
theorem dX3_takesOut_33 : decode cX3_takesOut 33 = .ok (.putfield 29, 3) := by decide +kernel
theorem dX3_takesOut_36 : decode cX3_takesOut 36 = .ok (.bipush 7, 2) := by decide +kernel
theorem dX3_takesOut_38 : decode cX3_takesOut 38 = .ok (.iload_n 1, 1) := by decide +kernel
theorem dX3_takesOut_39 : decode cX3_takesOut 39 = .ok (.imul, 1) := by decide +kernel
theorem dX3_takesOut_40 : decode cX3_takesOut 40 = .ok (.istore_n 2, 1) := by decide +kernel
theorem dX3_takesOut_41 : decode cX3_takesOut 41 = .ok (.iload_n 2, 1) := by decide +kernel
theorem dX3_takesOut_42 : decode cX3_takesOut 42 = .ok (.bipush 7, 2) := by decide +kernel
theorem dX3_takesOut_44 : decode cX3_takesOut 44 = .ok (.aload_n 0, 1) := by decide +kernel
theorem dX3_takesOut_45 : decode cX3_takesOut 45 = .ok (.getfield 29, 3) := by decide +kernel
theorem dX3_takesOut_48 : decode cX3_takesOut 48 = .ok (.imul, 1) := by decide +kernel
theorem dX3_takesOut_49 : decode cX3_takesOut 49 = .ok (.if_icmp .ge 24, 3) := by decide +kernel
theorem dX3_takesOut_52 : decode cX3_takesOut 52 = .ok (.aload_n 0, 1) := by decide +kernel
theorem dX3_takesOut_53 : decode cX3_takesOut 53 = .ok (.getfield 7, 3) := by decide +kernel
theorem dX3_takesOut_56 : decode cX3_takesOut 56 = .ok (.iload_n 2, 1) := by decide +kernel
theorem dX3_takesOut_57 : decode cX3_takesOut 57 = .ok (.aload_n 0, 1) := by decide +kernel
theorem dX3_takesOut_58 : decode cX3_takesOut 58 = .ok (.getfield 7, 3) := by decide +kernel
theorem dX3_takesOut_61 : decode cX3_takesOut 61 = .ok (.iload_n 2, 1) := by decide +kernel
theorem dX3_takesOut_62 : decode cX3_takesOut 62 = .ok (.bipush 7, 2) := by decide +kernel
theorem dX3_takesOut_64 : decode cX3_takesOut 64 = .ok (.iadd, 1) := by decide +kernel
theorem dX3_takesOut_65 : decode cX3_takesOut 65 = .ok (.iaload, 1) := by decide +kernel
theorem dX3_takesOut_66 : decode cX3_takesOut 66 = .ok (.iastore, 1) := by decide +kernel
theorem dX3_takesOut_67 : decode cX3_takesOut 67 = .ok (.iinc 2 1, 3) := by decide +kernel
theorem dX3_takesOut_70 : decode cX3_takesOut 70 = .ok (.goto (-29), 3) := by decide +kernel
theorem dX3_takesOut_73 : decode cX3_takesOut 73 = .ok (.return_, 1) := by decide +kernel
theorem dX3_putsIn_0 : decode cX3_putsIn 0 = .ok (.bipush 7, 2) := by decide +kernel
theorem dX3_putsIn_2 : decode cX3_putsIn 2 = .ok (.aload_n 0, 1) := by decide +kernel
theorem dX3_putsIn_3 : decode cX3_putsIn 3 = .ok (.getfield 29, 3) := by decide +kernel
theorem dX3_putsIn_6 : decode cX3_putsIn 6 = .ok (.imul, 1) := by decide +kernel
theorem dX3_putsIn_7 : decode cX3_putsIn 7 = .ok (.iconst 1, 1) := by decide +kernel
theorem dX3_putsIn_8 : decode cX3_putsIn 8 = .ok (.isub, 1) := by decide +kernel
theorem dX3_putsIn_9 : decode cX3_putsIn 9 = .ok (.istore_n 2, 1) := by decide +kernel
theorem dX3_putsIn_10 : decode cX3_putsIn 10 = .ok (.iload_n 2, 1) := by decide +kernel
theorem dX3_putsIn_11 : decode cX3_putsIn 11 = .ok (.bipush 7, 2) := by decide +kernel
theorem dX3_putsIn_13 : decode cX3_putsIn 13 = .ok (.iload_n 1, 1) := by decide +kernel
theorem dX3_putsIn_14 : decode cX3_putsIn 14 = .ok (.imul, 1) := by decide +kernel
theorem dX3_putsIn_15 : decode cX3_putsIn 15 = .ok (.if_icmp .lt 24, 3) := by decide +kernel
theorem dX3_putsIn_18 : decode cX3_putsIn 18 = .ok (.aload_n 0, 1) := by decide +kernel
theorem dX3_putsIn_19 : decode cX3_putsIn 19 = .ok (.getfield 7, 3) := by decide +kernel
theorem dX3_putsIn_22 : decode cX3_putsIn 22 = .ok (.iload_n 2, 1) := by decide +kernel
theorem dX3_putsIn_23 : decode cX3_putsIn 23 = .ok (.bipush 7, 2) := by decide +kernel
theorem dX3_putsIn_25 : decode cX3_putsIn 25 = .ok (.iadd, 1) := by decide +kernel
theorem dX3_putsIn_26 : decode cX3_putsIn 26 = .ok (.aload_n 0, 1) := by decide +kernel
theorem dX3_putsIn_27 : decode cX3_putsIn 27 = .ok (.getfield 7, 3) := by decide +kernel
theorem dX3_putsIn_30 : decode cX3_putsIn 30 = .ok (.iload_n 2, 1) := by decide +kernel
theorem dX3_putsIn_31 : decode cX3_putsIn 31 = .ok (.iaload, 1) := by decide +kernel
theorem dX3_putsIn_32 : decode cX3_putsIn 32 = .ok (.iastore, 1) := by decide +kernel
theorem dX3_putsIn_33 : decode cX3_putsIn 33 = .ok (.iinc 2 (-1), 3) := by decide +kernel
theorem dX3_putsIn_36 : decode cX3_putsIn 36 = .ok (.goto (-26), 3) := by decide +kernel
theorem dX3_putsIn_39 : decode cX3_putsIn 39 = .ok (.aload_n 0, 1) := by decide +kernel
theorem dX3_putsIn_40 : decode cX3_putsIn 40 = .ok (.dup, 1) := by decide +kernel
theorem dX3_putsIn_41 : decode cX3_putsIn 41 = .ok (.getfield 29, 3) := by decide +kernel
theorem dX3_putsIn_44 : decode cX3_putsIn 44 = .ok (.iconst 1, 1) := by decide +kernel
theorem dX3_putsIn_45 : decode cX3_putsIn 45 = .ok (.iadd, 1) := by decide +kernel
theorem dX3_putsIn_46 : decode cX3_putsIn 46 = .ok (.putfield 29, 3) := by decide +kernel
theorem dX3_putsIn_49 : decode cX3_putsIn 49 = .ok (.iconst 0, 1) := by decide +kernel
theorem dX3_putsIn_50 : decode cX3_putsIn 50 = .ok (.istore_n 2, 1) := by decide +kernel
theorem dX3_putsIn_51 : decode cX3_putsIn 51 = .ok (.iload_n 2, 1) := by decide +kernel
theorem dX3_putsIn_52 : decode cX3_putsIn 52 = .ok (.bipush 7, 2) := by decide +kernel
theorem dX3_putsIn_54 : decode cX3_putsIn 54 = .ok (.if_icmp .ge 26, 3) := by decide +kernel
theorem dX3_putsIn_57 : decode cX3_putsIn 57 = .ok (.aload_n 0, 1) := by decide +kernel
theorem dX3_putsIn_58 : decode cX3_putsIn 58 = .ok (.getfield 7, 3) := by decide +kernel
theorem dX3_putsIn_61 : decode cX3_putsIn 61 = .ok (.bipush 7, 2) := by decide +kernel
theorem dX3_putsIn_63 : decode cX3_putsIn 63 = .ok (.iload_n 1, 1) := by decide +kernel
theorem dX3_putsIn_64 : decode cX3_putsIn 64 = .ok (.imul, 1) := by decide +kernel
theorem dX3_putsIn_65 : decode cX3_putsIn 65 = .ok (.iload_n 2, 1) := by decide +kernel
theorem dX3_putsIn_66 : decode cX3_putsIn 66 = .ok (.iadd, 1) := by decide +kernel
theorem dX3_putsIn_67 : decode cX3_putsIn 67 = .ok (.aload_n 0, 1) := by decide +kernel
theorem dX3_putsIn_68 : decode cX3_putsIn 68 = .ok (.getfield 16, 3) := by decide +kernel
theorem dX3_putsIn_71 : decode cX3_putsIn 71 = .ok (.iload_n 2, 1) := by decide +kernel
theorem dX3_putsIn_72 : decode cX3_putsIn 72 = .ok (.iaload, 1) := by decide +kernel
theorem dX3_putsIn_73 : decode cX3_putsIn 73 = .ok (.iastore, 1) := by decide +kernel
theorem dX3_putsIn_74 : decode cX3_putsIn 74 = .ok (.iinc 2 1, 3) := by decide +kernel
theorem dX3_putsIn_77 : decode cX3_putsIn 77 = .ok (.goto (-26), 3) := by decide +kernel
theorem dX3_putsIn_80 : decode cX3_putsIn 80 = .ok (.return_, 1) := by decide +kernel
set_option maxRecDepth 20000 in
theorem ggX3_isRange_X3_in : GoodIn wsX3_isRange wsX3_in := goodIn_r _ [4] (by decide +kernel) (by decide +kernel)
set_option maxRecDepth 20000 in
theorem gX3_isRange_X3_in : GoodIn wsX3_isRange (va_wsS RX3 32 yX3_in wsX3_in) := goodIn_app (goodIn_of _ (by decide +kernel)) ggX3_isRange_X3_in
theorem dX3_isRange_0 : decode cX3_isRange 0 = .ok (.iload_n 0, 1) := by decide +kernel
theorem dX3_isRange_1 : decode cX3_isRange 1 = .ok (.iconst 0, 1) := by decide +kernel
theorem dX3_isRange_2 : decode cX3_isRange 2 = .ok (.bipush 31, 2) := by decide +kernel
theorem dX3_isRange_4 : decode cX3_isRange 4 = .ok (.invokestatic 32, 3) := by decide +kernel
theorem dX3_isRange_7 : decode cX3_isRange 7 = .ok (.ifCond .eq 17, 3) := by decide +kernel
theorem dX3_isRange_10 : decode cX3_isRange 10 = .ok (.iload_n 1, 1) := by decide +kernel
theorem dX3_isRange_11 : decode cX3_isRange 11 = .ok (.iload_n 0, 1) := by decide +kernel
theorem dX3_isRange_12 : decode cX3_isRange 12 = .ok (.bipush 31, 2) := by decide +kernel
theorem dX3_isRange_14 : decode cX3_isRange 14 = .ok (.invokestatic 32, 3) := by decide +kernel
theorem dX3_isRange_17 : decode cX3_isRange 17 = .ok (.ifCond .eq 7, 3) := by decide +kernel
theorem dX3_isRange_20 : decode cX3_isRange 20 = .ok (.iconst 1, 1) := by decide +kernel
theorem dX3_isRange_21 : decode cX3_isRange 21 = .ok (.goto 4, 3) := by decide +kernel
theorem dX3_isRange_24 : decode cX3_isRange 24 = .ok (.iconst 0, 1) := by decide +kernel
theorem dX3_isRange_25 : decode cX3_isRange 25 = .ok (.ireturn, 1) := by decide +kernel
set_option maxRecDepth 20000 in
theorem ggX3_add_X3_isRange : GoodIn wsX3_add wsX3_isRange := goodIn_r _ [6, 7, 8, 5, 9] (by decide +kernel) (by decide +kernel)
set_option maxRecDepth 20000 in
theorem gX3_add_X3_isRange : GoodIn wsX3_add (va_wsS RX3 51 yX3_isRange wsX3_isRange) := goodIn_app (goodIn_of _ (by decide +kernel)) ggX3_add_X3_isRange
set_option maxRecDepth 20000 in
theorem ggX3_add_X3_in : GoodIn wsX3_add wsX3_in := goodIn_r _ [9] (by decide +kernel) (by decide +kernel)
set_option maxRecDepth 20000 in
theorem gX3_add_X3_in : GoodIn wsX3_add (va_wsS RX3 32 yX3_in wsX3_in) := goodIn_app (goodIn_of _ (by decide +kernel)) ggX3_add_X3_in
set_option maxRecDepth 20000 in
theorem ggX3_add_X3_holds : GoodIn wsX3_add wsX3_holds := goodIn_r _ [13, 14, 20, 21, 22, 23, 24, 25, 26, 27, 28, 29] (by decide +kernel) (by decide +kernel)
set_option maxRecDepth 20000 in
theorem gX3_add_X3_holds : GoodIn wsX3_add (wsV RX3 55 RX3 yX3_holds wsX3_holds) := goodIn_app (goodIn_of _ (by decide +kernel)) ggX3_add_X3_holds
set_option maxRecDepth 20000 in
theorem ggX3_add_X3_putsIn : GoodIn wsX3_add wsX3_putsIn := goodIn_r _ [18, 1, 19, 2, 20, 21, 22, 23, 24, 25, 26, 27, 28, 29] (by decide +kernel) (by decide +kernel)
set_option maxRecDepth 20000 in
theorem gX3_add_X3_putsIn : GoodIn wsX3_add (wsV RX3 59 RX3 yX3_putsIn wsX3_putsIn) := goodIn_app (goodIn_of _ (by decide +kernel)) ggX3_add_X3_putsIn
theorem dX3_add_0 : decode cX3_add 0 = .ok (.iload_n 1, 1) := by decide +kernel
theorem dX3_add_1 : decode cX3_add 1 = .ok (.iload_n 2, 1) := by decide +kernel
theorem dX3_add_2 : decode cX3_add 2 = .ok (.invokestatic 51, 3) := by decide +kernel
theorem dX3_add_5 : decode cX3_add 5 = .ok (.ifCond .eq 27, 3) := by decide +kernel
theorem dX3_add_8 : decode cX3_add 8 = .ok (.iload_n 3, 1) := by decide +kernel
theorem dX3_add_9 : decode cX3_add 9 = .ok (.iload 4, 2) := by decide +kernel
theorem dX3_add_11 : decode cX3_add 11 = .ok (.invokestatic 51, 3) := by decide +kernel
theorem dX3_add_14 : decode cX3_add 14 = .ok (.ifCond .eq 18, 3) := by decide +kernel
theorem dX3_add_17 : decode cX3_add 17 = .ok (.iload 5, 2) := by decide +kernel
theorem dX3_add_19 : decode cX3_add 19 = .ok (.iconst 1, 1) := by decide +kernel
theorem dX3_add_20 : decode cX3_add 20 = .ok (.bipush 15, 2) := by decide +kernel
theorem dX3_add_22 : decode cX3_add 22 = .ok (.invokestatic 32, 3) := by decide +kernel
theorem dX3_add_25 : decode cX3_add 25 = .ok (.ifCond .eq 7, 3) := by decide +kernel
theorem dX3_add_28 : decode cX3_add 28 = .ok (.iconst 1, 1) := by decide +kernel
theorem dX3_add_29 : decode cX3_add 29 = .ok (.goto 4, 3) := by decide +kernel
theorem dX3_add_32 : decode cX3_add 32 = .ok (.iconst 0, 1) := by decide +kernel
theorem dX3_add_33 : decode cX3_add 33 = .ok (.istore 7, 2) := by decide +kernel
theorem dX3_add_35 : decode cX3_add 35 = .ok (.aload_n 0, 1) := by decide +kernel
theorem dX3_add_36 : decode cX3_add 36 = .ok (.iload 7, 2) := by decide +kernel
theorem dX3_add_38 : decode cX3_add 38 = .ok (.ifCond .ne 7, 3) := by decide +kernel
theorem dX3_add_41 : decode cX3_add 41 = .ok (.iconst 1, 1) := by decide +kernel
theorem dX3_add_42 : decode cX3_add 42 = .ok (.goto 17, 3) := by decide +kernel
theorem dX3_add_45 : decode cX3_add 45 = .ok (.aload_n 0, 1) := by decide +kernel
theorem dX3_add_46 : decode cX3_add 46 = .ok (.getfield 29, 3) := by decide +kernel
theorem dX3_add_49 : decode cX3_add 49 = .ok (.bipush 16, 2) := by decide +kernel
theorem dX3_add_51 : decode cX3_add 51 = .ok (.if_icmp .ne 7, 3) := by decide +kernel
theorem dX3_add_54 : decode cX3_add 54 = .ok (.iconst 2, 1) := by decide +kernel
theorem dX3_add_55 : decode cX3_add 55 = .ok (.goto 4, 3) := by decide +kernel
theorem dX3_add_58 : decode cX3_add 58 = .ok (.iconst 0, 1) := by decide +kernel
theorem dX3_add_59 : decode cX3_add 59 = .ok (.invokevirtual 55, 3) := by decide +kernel
theorem dX3_add_62 : decode cX3_add 62 = .ok (.ifCond .ne 5, 3) := by decide +kernel
theorem dX3_add_65 : decode cX3_add 65 = .ok (.iconst 0, 1) := by decide +kernel
theorem dX3_add_66 : decode cX3_add 66 = .ok (.ireturn, 1) := by decide +kernel
theorem dX3_add_67 : decode cX3_add 67 = .ok (.aload_n 0, 1) := by decide +kernel
theorem dX3_add_68 : decode cX3_add 68 = .ok (.getfield 16, 3) := by decide +kernel
theorem dX3_add_71 : decode cX3_add 71 = .ok (.iconst 0, 1) := by decide +kernel
theorem dX3_add_72 : decode cX3_add 72 = .ok (.iload_n 1, 1) := by decide +kernel
theorem dX3_add_73 : decode cX3_add 73 = .ok (.iastore, 1) := by decide +kernel
theorem dX3_add_74 : decode cX3_add 74 = .ok (.aload_n 0, 1) := by decide +kernel
theorem dX3_add_75 : decode cX3_add 75 = .ok (.getfield 16, 3) := by decide +kernel
theorem dX3_add_78 : decode cX3_add 78 = .ok (.iconst 1, 1) := by decide +kernel
theorem dX3_add_79 : decode cX3_add 79 = .ok (.iload_n 2, 1) := by decide +kernel
theorem dX3_add_80 : decode cX3_add 80 = .ok (.iastore, 1) := by decide +kernel
theorem dX3_add_81 : decode cX3_add 81 = .ok (.aload_n 0, 1) := by decide +kernel
theorem dX3_add_82 : decode cX3_add 82 = .ok (.getfield 16, 3) := by decide +kernel
theorem dX3_add_85 : decode cX3_add 85 = .ok (.iconst 2, 1) := by decide +kernel
theorem dX3_add_86 : decode cX3_add 86 = .ok (.iload_n 3, 1) := by decide +kernel
theorem dX3_add_87 : decode cX3_add 87 = .ok (.iastore, 1) := by decide +kernel
theorem dX3_add_88 : decode cX3_add 88 = .ok (.aload_n 0, 1) := by decide +kernel
theorem dX3_add_89 : decode cX3_add 89 = .ok (.getfield 16, 3) := by decide +kernel
theorem dX3_add_92 : decode cX3_add 92 = .ok (.iconst 3, 1) := by decide +kernel
theorem dX3_add_93 : decode cX3_add 93 = .ok (.iload 4, 2) := by decide +kernel
theorem dX3_add_95 : decode cX3_add 95 = .ok (.iastore, 1) := by decide +kernel
theorem dX3_add_96 : decode cX3_add 96 = .ok (.aload_n 0, 1) := by decide +kernel
theorem dX3_add_97 : decode cX3_add 97 = .ok (.getfield 16, 3) := by decide +kernel
theorem dX3_add_100 : decode cX3_add 100 = .ok (.iconst 4, 1) := by decide +kernel
theorem dX3_add_101 : decode cX3_add 101 = .ok (.iload 5, 2) := by decide +kernel
theorem dX3_add_103 : decode cX3_add 103 = .ok (.iastore, 1) := by decide +kernel
theorem dX3_add_104 : decode cX3_add 104 = .ok (.aload_n 0, 1) := by decide +kernel
theorem dX3_add_105 : decode cX3_add 105 = .ok (.getfield 16, 3) := by decide +kernel
theorem dX3_add_108 : decode cX3_add 108 = .ok (.iconst 5, 1) := by decide +kernel
theorem dX3_add_109 : decode cX3_add 109 = .ok (.iload 6, 2) := by decide +kernel
theorem dX3_add_111 : decode cX3_add 111 = .ok (.ifCond .eq 7, 3) := by decide +kernel
theorem dX3_add_114 : decode cX3_add 114 = .ok (.iconst 1, 1) := by decide +kernel
theorem dX3_add_115 : decode cX3_add 115 = .ok (.goto 4, 3) := by decide +kernel
theorem dX3_add_118 : decode cX3_add 118 = .ok (.iconst 0, 1) := by decide +kernel
theorem dX3_add_119 : decode cX3_add 119 = .ok (.iastore, 1) := by decide +kernel
theorem dX3_add_120 : decode cX3_add 120 = .ok (.aload_n 0, 1) := by decide +kernel
theorem dX3_add_121 : decode cX3_add 121 = .ok (.getfield 16, 3) := by decide +kernel
theorem dX3_add_124 : decode cX3_add 124 = .ok (.bipush 6, 2) := by decide +kernel
theorem dX3_add_126 : decode cX3_add 126 = .ok (.iconst 0, 1) := by decide +kernel
theorem dX3_add_127 : decode cX3_add 127 = .ok (.iastore, 1) := by decide +kernel
theorem dX3_add_128 : decode cX3_add 128 = .ok (.aload_n 0, 1) := by decide +kernel
theorem dX3_add_129 : decode cX3_add 129 = .ok (.aload_n 0, 1) := by decide +kernel
theorem dX3_add_130 : decode cX3_add 130 = .ok (.getfield 29, 3) := by decide +kernel
theorem dX3_add_133 : decode cX3_add 133 = .ok (.invokevirtual 59, 3) := by decide +kernel
theorem dX3_add_136 : decode cX3_add 136 = .ok (.aload_n 0, 1) := by decide +kernel
theorem dX3_add_137 : decode cX3_add 137 = .ok (.getfield 29, 3) := by decide +kernel
theorem dX3_add_140 : decode cX3_add 140 = .ok (.iconst 1, 1) := by decide +kernel
theorem dX3_add_141 : decode cX3_add 141 = .ok (.isub, 1) := by decide +kernel
theorem dX3_add_142 : decode cX3_add 142 = .ok (.ireturn, 1) := by decide +kernel
set_option maxRecDepth 20000 in
theorem ggX3_remove_X3_isPlace : GoodIn wsX3_remove wsX3_isPlace := goodIn_r _ [5, 6, 7, 8, 4, 9, 45, 46, 47, 48, 49, 50, 51, 52, 53, 54] (by decide +kernel) (by decide +kernel)
set_option maxRecDepth 20000 in
theorem gX3_remove_X3_isPlace : GoodIn wsX3_remove (wsV RX3 63 RX3 yX3_isPlace wsX3_isPlace) := goodIn_app (goodIn_of _ (by decide +kernel)) ggX3_remove_X3_isPlace
set_option maxRecDepth 20000 in
theorem ggX3_remove_X3_holds : GoodIn wsX3_remove wsX3_holds := goodIn_r _ [13, 14, 45, 46, 47, 48, 49, 50, 51, 52, 53, 54] (by decide +kernel) (by decide +kernel)
set_option maxRecDepth 20000 in
theorem gX3_remove_X3_holds : GoodIn wsX3_remove (wsV RX3 55 RX3 yX3_holds wsX3_holds) := goodIn_app (goodIn_of _ (by decide +kernel)) ggX3_remove_X3_holds
set_option maxRecDepth 20000 in
theorem ggX3_remove_X3_keepsPermitted : GoodIn wsX3_remove wsX3_keepsPermitted := goodIn_r _ [18, 19, 20, 21, 22, 4, 23, 6, 24, 25, 26, 27, 28, 29, 30, 31, 32, 7, 8, 9, 45, 46, 47, 48, 49, 50, 51, 52, 53, 54] (by decide +kernel) (by decide +kernel)
set_option maxRecDepth 20000 in
theorem gX3_remove_X3_keepsPermitted : GoodIn wsX3_remove (wsV RX3 66 RX3 yX3_keepsPermitted wsX3_keepsPermitted) := goodIn_app (goodIn_of _ (by decide +kernel)) ggX3_remove_X3_keepsPermitted
set_option maxRecDepth 20000 in
theorem ggX3_remove_X3_takesOut : GoodIn wsX3_remove wsX3_takesOut := goodIn_r _ [36, 37, 6, 32, 28, 29, 30, 4, 31, 45, 46, 47, 48, 49, 50, 51, 52, 53, 54] (by decide +kernel) (by decide +kernel)
set_option maxRecDepth 20000 in
theorem gX3_remove_X3_takesOut : GoodIn wsX3_remove (wsV RX3 69 RX3 yX3_takesOut wsX3_takesOut) := goodIn_app (goodIn_of _ (by decide +kernel)) ggX3_remove_X3_takesOut
set_option maxRecDepth 20000 in
theorem ggX3_remove_X3_changed : GoodIn wsX3_remove wsX3_changed := goodIn_r _ [41, 19, 20, 21, 22, 4, 23, 6, 24, 25, 26, 27, 28, 29, 30, 31, 32, 7, 8, 9, 42, 43, 44, 45, 46, 47, 48, 49, 50, 51, 52, 53, 54] (by decide +kernel) (by decide +kernel)
set_option maxRecDepth 20000 in
theorem gX3_remove_X3_changed : GoodIn wsX3_remove (wsV RX3 72 RX3 yX3_changed wsX3_changed) := goodIn_app (goodIn_of _ (by decide +kernel)) ggX3_remove_X3_changed
theorem dX3_remove_0 : decode cX3_remove 0 = .ok (.aload_n 0, 1) := by decide +kernel
theorem dX3_remove_1 : decode cX3_remove 1 = .ok (.aload_n 0, 1) := by decide +kernel
theorem dX3_remove_2 : decode cX3_remove 2 = .ok (.iload_n 1, 1) := by decide +kernel
theorem dX3_remove_3 : decode cX3_remove 3 = .ok (.invokevirtual 63, 3) := by decide +kernel
theorem dX3_remove_6 : decode cX3_remove 6 = .ok (.ifCond .eq 7, 3) := by decide +kernel
theorem dX3_remove_9 : decode cX3_remove 9 = .ok (.iconst 0, 1) := by decide +kernel
theorem dX3_remove_10 : decode cX3_remove 10 = .ok (.goto 4, 3) := by decide +kernel
theorem dX3_remove_13 : decode cX3_remove 13 = .ok (.iconst 1, 1) := by decide +kernel
theorem dX3_remove_14 : decode cX3_remove 14 = .ok (.invokevirtual 55, 3) := by decide +kernel
theorem dX3_remove_17 : decode cX3_remove 17 = .ok (.ifCond .ne 5, 3) := by decide +kernel
theorem dX3_remove_20 : decode cX3_remove 20 = .ok (.iconst 0, 1) := by decide +kernel
theorem dX3_remove_21 : decode cX3_remove 21 = .ok (.ireturn, 1) := by decide +kernel
theorem dX3_remove_22 : decode cX3_remove 22 = .ok (.aload_n 0, 1) := by decide +kernel
theorem dX3_remove_23 : decode cX3_remove 23 = .ok (.invokevirtual 66, 3) := by decide +kernel
theorem dX3_remove_26 : decode cX3_remove 26 = .ok (.aload_n 0, 1) := by decide +kernel
theorem dX3_remove_27 : decode cX3_remove 27 = .ok (.iload_n 1, 1) := by decide +kernel
theorem dX3_remove_28 : decode cX3_remove 28 = .ok (.invokevirtual 69, 3) := by decide +kernel
theorem dX3_remove_31 : decode cX3_remove 31 = .ok (.aload_n 0, 1) := by decide +kernel
theorem dX3_remove_32 : decode cX3_remove 32 = .ok (.invokevirtual 72, 3) := by decide +kernel
theorem dX3_remove_35 : decode cX3_remove 35 = .ok (.ireturn, 1) := by decide +kernel
set_option maxRecDepth 20000 in
theorem ggX3_move_X3_isPlace : GoodIn wsX3_move wsX3_isPlace := goodIn_r _ [5, 6, 7, 8, 4, 9, 49, 50, 51, 52, 53, 54, 55, 56, 57, 58] (by decide +kernel) (by decide +kernel)
set_option maxRecDepth 20000 in
theorem gX3_move_X3_isPlace : GoodIn wsX3_move (wsV RX3 63 RX3 yX3_isPlace wsX3_isPlace) := goodIn_app (goodIn_of _ (by decide +kernel)) ggX3_move_X3_isPlace
set_option maxRecDepth 20000 in
theorem ggX3_move_X3_holds : GoodIn wsX3_move wsX3_holds := goodIn_r _ [13, 14, 49, 50, 51, 52, 53, 54, 55, 56, 57, 58] (by decide +kernel) (by decide +kernel)
set_option maxRecDepth 20000 in
theorem gX3_move_X3_holds : GoodIn wsX3_move (wsV RX3 55 RX3 yX3_holds wsX3_holds) := goodIn_app (goodIn_of _ (by decide +kernel)) ggX3_move_X3_holds
set_option maxRecDepth 20000 in
theorem ggX3_move_X3_keepsPermitted : GoodIn wsX3_move wsX3_keepsPermitted := goodIn_r _ [18, 19, 20, 21, 22, 4, 23, 6, 24, 25, 26, 27, 28, 29, 30, 31, 32, 7, 8, 9, 49, 50, 51, 52, 53, 54, 55, 56, 57, 58] (by decide +kernel) (by decide +kernel)
set_option maxRecDepth 20000 in
theorem gX3_move_X3_keepsPermitted : GoodIn wsX3_move (wsV RX3 66 RX3 yX3_keepsPermitted wsX3_keepsPermitted) := goodIn_app (goodIn_of _ (by decide +kernel)) ggX3_move_X3_keepsPermitted
set_option maxRecDepth 20000 in
theorem ggX3_move_X3_takesOut : GoodIn wsX3_move wsX3_takesOut := goodIn_r _ [36, 37, 6, 32, 28, 29, 30, 4, 31, 49, 50, 51, 52, 53, 54, 55, 56, 57, 58] (by decide +kernel) (by decide +kernel)
set_option maxRecDepth 20000 in
theorem gX3_move_X3_takesOut : GoodIn wsX3_move (wsV RX3 69 RX3 yX3_takesOut wsX3_takesOut) := goodIn_app (goodIn_of _ (by decide +kernel)) ggX3_move_X3_takesOut
set_option maxRecDepth 20000 in
theorem ggX3_move_X3_putsIn : GoodIn wsX3_move wsX3_putsIn := goodIn_r _ [41, 6, 32, 37, 49, 50, 51, 52, 53, 54, 55, 56, 57, 58] (by decide +kernel) (by decide +kernel)
set_option maxRecDepth 20000 in
theorem gX3_move_X3_putsIn : GoodIn wsX3_move (wsV RX3 59 RX3 yX3_putsIn wsX3_putsIn) := goodIn_app (goodIn_of _ (by decide +kernel)) ggX3_move_X3_putsIn
set_option maxRecDepth 20000 in
theorem ggX3_move_X3_changed : GoodIn wsX3_move wsX3_changed := goodIn_r _ [45, 19, 20, 21, 22, 4, 23, 6, 24, 25, 26, 27, 28, 29, 30, 31, 32, 7, 8, 9, 46, 47, 48, 49, 50, 51, 52, 53, 54, 55, 56, 57, 58] (by decide +kernel) (by decide +kernel)
set_option maxRecDepth 20000 in
theorem gX3_move_X3_changed : GoodIn wsX3_move (wsV RX3 72 RX3 yX3_changed wsX3_changed) := goodIn_app (goodIn_of _ (by decide +kernel)) ggX3_move_X3_changed
theorem dX3_move_0 : decode cX3_move 0 = .ok (.aload_n 0, 1) := by decide +kernel
