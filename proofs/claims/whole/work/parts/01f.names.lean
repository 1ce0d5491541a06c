theorem dX12_saveReachable_40 : decode cX12_saveReachable 40 = .ok (.aload_n 0, 1) := by decide +kernel
theorem dX12_saveReachable_41 : decode cX12_saveReachable 41 = .ok (.iload_n 2, 1) := by decide +kernel
theorem dX12_saveReachable_42 : decode cX12_saveReachable 42 = .ok (.invokevirtual 154, 3) := by decide +kernel
theorem dX12_saveReachable_45 : decode cX12_saveReachable 45 = .ok (.i2l, 1) := by decide +kernel
theorem dX12_saveReachable_46 : decode cX12_saveReachable 46 = .ok (.lastore, 1) := by decide +kernel
theorem dX12_saveReachable_47 : decode cX12_saveReachable 47 = .ok (.iinc 2 1, 3) := by decide +kernel
theorem dX12_saveReachable_50 : decode cX12_saveReachable 50 = .ok (.goto (-25), 3) := by decide +kernel
theorem dX12_saveReachable_53 : decode cX12_saveReachable 53 = .ok (.aload_n 0, 1) := by decide +kernel
theorem dX12_saveReachable_54 : decode cX12_saveReachable 54 = .ok (.getfield 132, 3) := by decide +kernel
theorem dX12_saveReachable_57 : decode cX12_saveReachable 57 = .ok (.ireturn, 1) := by decide +kernel
set_option maxRecDepth 20000 in
theorem ggX12_compareReachable_X12_isArray : GoodIn wsX12_compareReachable wsX12_isArray := goodIn_r _ [7, 8, 9, 6, 10] (by decide +kernel) (by decide +kernel)
set_option maxRecDepth 20000 in
theorem gX12_compareReachable_X12_isArray : GoodIn wsX12_compareReachable (va_wsS RX12 296 yX12_isArray wsX12_isArray) := goodIn_app (goodIn_of _ (by decide +kernel)) ggX12_compareReachable_X12_isArray
set_option maxRecDepth 20000 in
theorem ggX12_compareReachable_X12_findDistances : GoodIn wsX12_compareReachable wsX12_findDistances := goodIn_r _ [14, 2, 15, 16, 17, 18, 23, 24, 25, 26, 27, 28, 29, 30, 31, 32, 33, 34, 35, 36, 37, 38, 39, 40, 41, 42, 43, 44, 45, 46, 47, 48, 49, 50, 51, 52, 53, 54, 55, 56, 57, 58, 59, 60, 61, 62, 63, 64, 65, 66, 67, 68, 69, 70, 71, 72, 73, 74] (by decide +kernel) (by decide +kernel)
set_option maxRecDepth 20000 in
theorem gX12_compareReachable_X12_findDistances : GoodIn wsX12_compareReachable (wsV RX12 151 RX12 yX12_findDistances wsX12_findDistances) := goodIn_app (goodIn_of _ (by decide +kernel)) ggX12_compareReachable_X12_findDistances
set_option maxRecDepth 20000 in
theorem ggX12_compareReachable_X12_reachedFrom : GoodIn wsX12_compareReachable wsX12_reachedFrom := goodIn_r _ [22, 2, 15, 23, 24, 25, 26, 27, 28, 29, 30, 31, 32, 33, 34, 35, 36, 37, 38, 39, 40, 41, 42, 43, 44, 45, 46, 47, 48, 49, 50, 51, 52, 53, 54, 55, 56, 57, 58, 59, 60, 61, 62, 63, 64, 65, 66, 67, 68, 69, 70, 71, 72, 73, 74] (by decide +kernel) (by decide +kernel)
set_option maxRecDepth 20000 in
theorem gX12_compareReachable_X12_reachedFrom : GoodIn wsX12_compareReachable (wsV RX12 154 RX12 yX12_reachedFrom wsX12_reachedFrom) := goodIn_app (goodIn_of _ (by decide +kernel)) ggX12_compareReachable_X12_reachedFrom
theorem dX12_compareReachable_0 : decode cX12_compareReachable 0 = .ok (.iload_n 1, 1) := by decide +kernel
theorem dX12_compareReachable_1 : decode cX12_compareReachable 1 = .ok (.invokestatic 296, 3) := by decide +kernel
theorem dX12_compareReachable_4 : decode cX12_compareReachable 4 = .ok (.ifCond .ne 5, 3) := by decide +kernel
theorem dX12_compareReachable_7 : decode cX12_compareReachable 7 = .ok (.iconst (-1), 1) := by decide +kernel
theorem dX12_compareReachable_8 : decode cX12_compareReachable 8 = .ok (.ireturn, 1) := by decide +kernel
theorem dX12_compareReachable_9 : decode cX12_compareReachable 9 = .ok (.aload_n 0, 1) := by decide +kernel
theorem dX12_compareReachable_10 : decode cX12_compareReachable 10 = .ok (.getfield 96, 3) := by decide +kernel
theorem dX12_compareReachable_13 : decode cX12_compareReachable 13 = .ok (.iload_n 1, 1) := by decide +kernel
theorem dX12_compareReachable_14 : decode cX12_compareReachable 14 = .ok (.iaload, 1) := by decide +kernel
theorem dX12_compareReachable_15 : decode cX12_compareReachable 15 = .ok (.ifCond .ge 6, 3) := by decide +kernel
theorem dX12_compareReachable_18 : decode cX12_compareReachable 18 = .ok (.bipush (-11), 2) := by decide +kernel
theorem dX12_compareReachable_20 : decode cX12_compareReachable 20 = .ok (.ireturn, 1) := by decide +kernel
theorem dX12_compareReachable_21 : decode cX12_compareReachable 21 = .ok (.aload_n 0, 1) := by decide +kernel
theorem dX12_compareReachable_22 : decode cX12_compareReachable 22 = .ok (.invokevirtual 151, 3) := by decide +kernel
theorem dX12_compareReachable_25 : decode cX12_compareReachable 25 = .ok (.aload_n 0, 1) := by decide +kernel
theorem dX12_compareReachable_26 : decode cX12_compareReachable 26 = .ok (.getfield 96, 3) := by decide +kernel
theorem dX12_compareReachable_29 : decode cX12_compareReachable 29 = .ok (.iload_n 1, 1) := by decide +kernel
theorem dX12_compareReachable_30 : decode cX12_compareReachable 30 = .ok (.iaload, 1) := by decide +kernel
theorem dX12_compareReachable_31 : decode cX12_compareReachable 31 = .ok (.aload_n 0, 1) := by decide +kernel
theorem dX12_compareReachable_32 : decode cX12_compareReachable 32 = .ok (.getfield 132, 3) := by decide +kernel
theorem dX12_compareReachable_35 : decode cX12_compareReachable 35 = .ok (.if_icmp .ge 12, 3) := by decide +kernel
theorem dX12_compareReachable_38 : decode cX12_compareReachable 38 = .ok (.aload_n 0, 1) := by decide +kernel
theorem dX12_compareReachable_39 : decode cX12_compareReachable 39 = .ok (.getfield 96, 3) := by decide +kernel
theorem dX12_compareReachable_42 : decode cX12_compareReachable 42 = .ok (.iload_n 1, 1) := by decide +kernel
theorem dX12_compareReachable_43 : decode cX12_compareReachable 43 = .ok (.iaload, 1) := by decide +kernel
theorem dX12_compareReachable_44 : decode cX12_compareReachable 44 = .ok (.goto 7, 3) := by decide +kernel
theorem dX12_compareReachable_47 : decode cX12_compareReachable 47 = .ok (.aload_n 0, 1) := by decide +kernel
theorem dX12_compareReachable_48 : decode cX12_compareReachable 48 = .ok (.getfield 132, 3) := by decide +kernel
theorem dX12_compareReachable_51 : decode cX12_compareReachable 51 = .ok (.istore_n 2, 1) := by decide +kernel
theorem dX12_compareReachable_52 : decode cX12_compareReachable 52 = .ok (.iconst 0, 1) := by decide +kernel
theorem dX12_compareReachable_53 : decode cX12_compareReachable 53 = .ok (.istore_n 3, 1) := by decide +kernel
theorem dX12_compareReachable_54 : decode cX12_compareReachable 54 = .ok (.iload_n 3, 1) := by decide +kernel
theorem dX12_compareReachable_55 : decode cX12_compareReachable 55 = .ok (.iload_n 2, 1) := by decide +kernel
theorem dX12_compareReachable_56 : decode cX12_compareReachable 56 = .ok (.if_icmp .ge 29, 3) := by decide +kernel
theorem dX12_compareReachable_59 : decode cX12_compareReachable 59 = .ok (.aload_n 0, 1) := by decide +kernel
theorem dX12_compareReachable_60 : decode cX12_compareReachable 60 = .ok (.getfield 101, 3) := by decide +kernel
theorem dX12_compareReachable_63 : decode cX12_compareReachable 63 = .ok (.iload_n 1, 1) := by decide +kernel
theorem dX12_compareReachable_64 : decode cX12_compareReachable 64 = .ok (.aaload, 1) := by decide +kernel
theorem dX12_compareReachable_65 : decode cX12_compareReachable 65 = .ok (.iload_n 3, 1) := by decide +kernel
theorem dX12_compareReachable_66 : decode cX12_compareReachable 66 = .ok (.laload, 1) := by decide +kernel
theorem dX12_compareReachable_67 : decode cX12_compareReachable 67 = .ok (.aload_n 0, 1) := by decide +kernel
theorem dX12_compareReachable_68 : decode cX12_compareReachable 68 = .ok (.iload_n 3, 1) := by decide +kernel
theorem dX12_compareReachable_69 : decode cX12_compareReachable 69 = .ok (.invokevirtual 154, 3) := by decide +kernel
theorem dX12_compareReachable_72 : decode cX12_compareReachable 72 = .ok (.i2l, 1) := by decide +kernel
theorem dX12_compareReachable_73 : decode cX12_compareReachable 73 = .ok (.lcmp, 1) := by decide +kernel
theorem dX12_compareReachable_74 : decode cX12_compareReachable 74 = .ok (.ifCond .eq 5, 3) := by decide +kernel
theorem dX12_compareReachable_77 : decode cX12_compareReachable 77 = .ok (.iload_n 3, 1) := by decide +kernel
theorem dX12_compareReachable_78 : decode cX12_compareReachable 78 = .ok (.ireturn, 1) := by decide +kernel
theorem dX12_compareReachable_79 : decode cX12_compareReachable 79 = .ok (.iinc 3 1, 3) := by decide +kernel
theorem dX12_compareReachable_82 : decode cX12_compareReachable 82 = .ok (.goto (-28), 3) := by decide +kernel
theorem dX12_compareReachable_85 : decode cX12_compareReachable 85 = .ok (.aload_n 0, 1) := by decide +kernel
theorem dX12_compareReachable_86 : decode cX12_compareReachable 86 = .ok (.getfield 96, 3) := by decide +kernel
theorem dX12_compareReachable_89 : decode cX12_compareReachable 89 = .ok (.iload_n 1, 1) := by decide +kernel
theorem dX12_compareReachable_90 : decode cX12_compareReachable 90 = .ok (.iaload, 1) := by decide +kernel
theorem dX12_compareReachable_91 : decode cX12_compareReachable 91 = .ok (.aload_n 0, 1) := by decide +kernel
theorem dX12_compareReachable_92 : decode cX12_compareReachable 92 = .ok (.getfield 132, 3) := by decide +kernel
theorem dX12_compareReachable_95 : decode cX12_compareReachable 95 = .ok (.if_icmp .ne 8, 3) := by decide +kernel
theorem dX12_compareReachable_98 : decode cX12_compareReachable 98 = .ok (.bipush (-2), 2) := by decide +kernel
theorem dX12_compareReachable_100 : decode cX12_compareReachable 100 = .ok (.goto 4, 3) := by decide +kernel
theorem dX12_compareReachable_103 : decode cX12_compareReachable 103 = .ok (.iload_n 2, 1) := by decide +kernel
theorem dX12_compareReachable_104 : decode cX12_compareReachable 104 = .ok (.ireturn, 1) := by decide +kernel
set_option maxRecDepth 20000 in
theorem ggX12_copyTable_X12_copyRow : GoodIn wsX12_copyTable wsX12_copyRow := goodIn_r _ [4] (by decide +kernel) (by decide +kernel)
set_option maxRecDepth 20000 in
theorem gX12_copyTable_X12_copyRow : GoodIn wsX12_copyTable (va_wsS RX12 228 yX12_copyRow wsX12_copyRow) := goodIn_app (goodIn_of _ (by decide +kernel)) ggX12_copyTable_X12_copyRow
theorem dX12_copyTable_0 : decode cX12_copyTable 0 = .ok (.iconst 0, 1) := by decide +kernel
theorem dX12_copyTable_1 : decode cX12_copyTable 1 = .ok (.istore_n 2, 1) := by decide +kernel
theorem dX12_copyTable_2 : decode cX12_copyTable 2 = .ok (.iload_n 2, 1) := by decide +kernel
theorem dX12_copyTable_3 : decode cX12_copyTable 3 = .ok (.aload_n 0, 1) := by decide +kernel
theorem dX12_copyTable_4 : decode cX12_copyTable 4 = .ok (.arraylength, 1) := by decide +kernel
theorem dX12_copyTable_5 : decode cX12_copyTable 5 = .ok (.if_icmp .ge 18, 3) := by decide +kernel
theorem dX12_copyTable_8 : decode cX12_copyTable 8 = .ok (.aload_n 0, 1) := by decide +kernel
theorem dX12_copyTable_9 : decode cX12_copyTable 9 = .ok (.iload_n 2, 1) := by decide +kernel
theorem dX12_copyTable_10 : decode cX12_copyTable 10 = .ok (.aaload, 1) := by decide +kernel
theorem dX12_copyTable_11 : decode cX12_copyTable 11 = .ok (.aload_n 1, 1) := by decide +kernel
theorem dX12_copyTable_12 : decode cX12_copyTable 12 = .ok (.iload_n 2, 1) := by decide +kernel
theorem dX12_copyTable_13 : decode cX12_copyTable 13 = .ok (.aaload, 1) := by decide +kernel
theorem dX12_copyTable_14 : decode cX12_copyTable 14 = .ok (.invokestatic 228, 3) := by decide +kernel
theorem dX12_copyTable_17 : decode cX12_copyTable 17 = .ok (.iinc 2 1, 3) := by decide +kernel
theorem dX12_copyTable_20 : decode cX12_copyTable 20 = .ok (.goto (-18), 3) := by decide +kernel
theorem dX12_copyTable_23 : decode cX12_copyTable 23 = .ok (.return_, 1) := by decide +kernel
set_option maxRecDepth 20000 in
theorem ggX12_saveSnapshot_X12_copyRow : GoodIn wsX12_saveSnapshot wsX12_copyRow := goodIn_r _ [27] (by decide +kernel) (by decide +kernel)
set_option maxRecDepth 20000 in
theorem gX12_saveSnapshot_X12_copyRow : GoodIn wsX12_saveSnapshot (va_wsS RX12 228 yX12_copyRow wsX12_copyRow) := goodIn_app (goodIn_of _ (by decide +kernel)) ggX12_saveSnapshot_X12_copyRow
set_option maxRecDepth 20000 in
theorem ggX12_saveSnapshot_X12_copyTable : GoodIn wsX12_saveSnapshot wsX12_copyTable := goodIn_r _ [30, 24, 25, 26, 27] (by decide +kernel) (by decide +kernel)
set_option maxRecDepth 20000 in
theorem gX12_saveSnapshot_X12_copyTable : GoodIn wsX12_saveSnapshot (va_wsS RX12 316 yX12_copyTable wsX12_copyTable) := goodIn_app (goodIn_of _ (by decide +kernel)) ggX12_saveSnapshot_X12_copyTable
set_option maxRecDepth 20000 in
theorem ggX12_saveSnapshot_X12_copyPairs : GoodIn wsX12_saveSnapshot wsX12_copyPairs := goodIn_r _ [33] (by decide +kernel) (by decide +kernel)
set_option maxRecDepth 20000 in
theorem gX12_saveSnapshot_X12_copyPairs : GoodIn wsX12_saveSnapshot (va_wsS RX12 232 yX12_copyPairs wsX12_copyPairs) := goodIn_app (goodIn_of _ (by decide +kernel)) ggX12_saveSnapshot_X12_copyPairs
theorem dX12_saveSnapshot_0 : decode cX12_saveSnapshot 0 = .ok (.aload_n 0, 1) := by decide +kernel
theorem dX12_saveSnapshot_1 : decode cX12_saveSnapshot 1 = .ok (.iconst 1, 1) := by decide +kernel
theorem dX12_saveSnapshot_2 : decode cX12_saveSnapshot 2 = .ok (.putfield 303, 3) := by decide +kernel
theorem dX12_saveSnapshot_5 : decode cX12_saveSnapshot 5 = .ok (.aload_n 0, 1) := by decide +kernel
theorem dX12_saveSnapshot_6 : decode cX12_saveSnapshot 6 = .ok (.aload_n 0, 1) := by decide +kernel
theorem dX12_saveSnapshot_7 : decode cX12_saveSnapshot 7 = .ok (.getfield 132, 3) := by decide +kernel
theorem dX12_saveSnapshot_10 : decode cX12_saveSnapshot 10 = .ok (.putfield 307, 3) := by decide +kernel
theorem dX12_saveSnapshot_13 : decode cX12_saveSnapshot 13 = .ok (.aload_n 0, 1) := by decide +kernel
theorem dX12_saveSnapshot_14 : decode cX12_saveSnapshot 14 = .ok (.aload_n 0, 1) := by decide +kernel
theorem dX12_saveSnapshot_15 : decode cX12_saveSnapshot 15 = .ok (.getfield 135, 3) := by decide +kernel
theorem dX12_saveSnapshot_18 : decode cX12_saveSnapshot 18 = .ok (.putfield 310, 3) := by decide +kernel
theorem dX12_saveSnapshot_21 : decode cX12_saveSnapshot 21 = .ok (.aload_n 0, 1) := by decide +kernel
theorem dX12_saveSnapshot_22 : decode cX12_saveSnapshot 22 = .ok (.aload_n 0, 1) := by decide +kernel
theorem dX12_saveSnapshot_23 : decode cX12_saveSnapshot 23 = .ok (.getfield 255, 3) := by decide +kernel
theorem dX12_saveSnapshot_26 : decode cX12_saveSnapshot 26 = .ok (.putfield 313, 3) := by decide +kernel
theorem dX12_saveSnapshot_29 : decode cX12_saveSnapshot 29 = .ok (.aload_n 0, 1) := by decide +kernel
theorem dX12_saveSnapshot_30 : decode cX12_saveSnapshot 30 = .ok (.getfield 27, 3) := by decide +kernel
theorem dX12_saveSnapshot_33 : decode cX12_saveSnapshot 33 = .ok (.aload_n 0, 1) := by decide +kernel
theorem dX12_saveSnapshot_34 : decode cX12_saveSnapshot 34 = .ok (.getfield 104, 3) := by decide +kernel
theorem dX12_saveSnapshot_37 : decode cX12_saveSnapshot 37 = .ok (.invokestatic 228, 3) := by decide +kernel
theorem dX12_saveSnapshot_40 : decode cX12_saveSnapshot 40 = .ok (.aload_n 0, 1) := by decide +kernel
theorem dX12_saveSnapshot_41 : decode cX12_saveSnapshot 41 = .ok (.getfield 17, 3) := by decide +kernel
theorem dX12_saveSnapshot_44 : decode cX12_saveSnapshot 44 = .ok (.aload_n 0, 1) := by decide +kernel
theorem dX12_saveSnapshot_45 : decode cX12_saveSnapshot 45 = .ok (.getfield 107, 3) := by decide +kernel
theorem dX12_saveSnapshot_48 : decode cX12_saveSnapshot 48 = .ok (.invokestatic 228, 3) := by decide +kernel
theorem dX12_saveSnapshot_51 : decode cX12_saveSnapshot 51 = .ok (.aload_n 0, 1) := by decide +kernel
theorem dX12_saveSnapshot_52 : decode cX12_saveSnapshot 52 = .ok (.getfield 21, 3) := by decide +kernel
theorem dX12_saveSnapshot_55 : decode cX12_saveSnapshot 55 = .ok (.aload_n 0, 1) := by decide +kernel
theorem dX12_saveSnapshot_56 : decode cX12_saveSnapshot 56 = .ok (.getfield 110, 3) := by decide +kernel
theorem dX12_saveSnapshot_59 : decode cX12_saveSnapshot 59 = .ok (.invokestatic 228, 3) := by decide +kernel
theorem dX12_saveSnapshot_62 : decode cX12_saveSnapshot 62 = .ok (.aload_n 0, 1) := by decide +kernel
theorem dX12_saveSnapshot_63 : decode cX12_saveSnapshot 63 = .ok (.getfield 24, 3) := by decide +kernel
theorem dX12_saveSnapshot_66 : decode cX12_saveSnapshot 66 = .ok (.aload_n 0, 1) := by decide +kernel
theorem dX12_saveSnapshot_67 : decode cX12_saveSnapshot 67 = .ok (.getfield 113, 3) := by decide +kernel
theorem dX12_saveSnapshot_70 : decode cX12_saveSnapshot 70 = .ok (.invokestatic 228, 3) := by decide +kernel
theorem dX12_saveSnapshot_73 : decode cX12_saveSnapshot 73 = .ok (.aload_n 0, 1) := by decide +kernel
theorem dX12_saveSnapshot_74 : decode cX12_saveSnapshot 74 = .ok (.getfield 72, 3) := by decide +kernel
theorem dX12_saveSnapshot_77 : decode cX12_saveSnapshot 77 = .ok (.aload_n 0, 1) := by decide +kernel
theorem dX12_saveSnapshot_78 : decode cX12_saveSnapshot 78 = .ok (.getfield 116, 3) := by decide +kernel
theorem dX12_saveSnapshot_81 : decode cX12_saveSnapshot 81 = .ok (.invokestatic 228, 3) := by decide +kernel
theorem dX12_saveSnapshot_84 : decode cX12_saveSnapshot 84 = .ok (.aload_n 0, 1) := by decide +kernel
theorem dX12_saveSnapshot_85 : decode cX12_saveSnapshot 85 = .ok (.getfield 32, 3) := by decide +kernel
theorem dX12_saveSnapshot_88 : decode cX12_saveSnapshot 88 = .ok (.aload_n 0, 1) := by decide +kernel
theorem dX12_saveSnapshot_89 : decode cX12_saveSnapshot 89 = .ok (.getfield 119, 3) := by decide +kernel
theorem dX12_saveSnapshot_92 : decode cX12_saveSnapshot 92 = .ok (.invokestatic 316, 3) := by decide +kernel
theorem dX12_saveSnapshot_95 : decode cX12_saveSnapshot 95 = .ok (.aload_n 0, 1) := by decide +kernel
theorem dX12_saveSnapshot_96 : decode cX12_saveSnapshot 96 = .ok (.getfield 69, 3) := by decide +kernel
theorem dX12_saveSnapshot_99 : decode cX12_saveSnapshot 99 = .ok (.aload_n 0, 1) := by decide +kernel
theorem dX12_saveSnapshot_100 : decode cX12_saveSnapshot 100 = .ok (.getfield 122, 3) := by decide +kernel
theorem dX12_saveSnapshot_103 : decode cX12_saveSnapshot 103 = .ok (.invokestatic 316, 3) := by decide +kernel
theorem dX12_saveSnapshot_106 : decode cX12_saveSnapshot 106 = .ok (.aload_n 0, 1) := by decide +kernel
theorem dX12_saveSnapshot_107 : decode cX12_saveSnapshot 107 = .ok (.getfield 11, 3) := by decide +kernel
theorem dX12_saveSnapshot_110 : decode cX12_saveSnapshot 110 = .ok (.aload_n 0, 1) := by decide +kernel
theorem dX12_saveSnapshot_111 : decode cX12_saveSnapshot 111 = .ok (.getfield 125, 3) := by decide +kernel
theorem dX12_saveSnapshot_114 : decode cX12_saveSnapshot 114 = .ok (.invokestatic 232, 3) := by decide +kernel
theorem dX12_saveSnapshot_117 : decode cX12_saveSnapshot 117 = .ok (.aload_n 0, 1) := by decide +kernel
theorem dX12_saveSnapshot_118 : decode cX12_saveSnapshot 118 = .ok (.getfield 132, 3) := by decide +kernel
theorem dX12_saveSnapshot_121 : decode cX12_saveSnapshot 121 = .ok (.ireturn, 1) := by decide +kernel
set_option maxRecDepth 20000 in
theorem ggX12_restoreSnapshot_X12_copyRow : GoodIn wsX12_restoreSnapshot wsX12_copyRow := goodIn_r _ [27] (by decide +kernel) (by decide +kernel)
set_option maxRecDepth 20000 in
theorem gX12_restoreSnapshot_X12_copyRow : GoodIn wsX12_restoreSnapshot (va_wsS RX12 228 yX12_copyRow wsX12_copyRow) := goodIn_app (goodIn_of _ (by decide +kernel)) ggX12_restoreSnapshot_X12_copyRow
set_option maxRecDepth 20000 in
theorem ggX12_restoreSnapshot_X12_copyTable : GoodIn wsX12_restoreSnapshot wsX12_copyTable := goodIn_r _ [30, 24, 25, 26, 27] (by decide +kernel) (by decide +kernel)
set_option maxRecDepth 20000 in
theorem gX12_restoreSnapshot_X12_copyTable : GoodIn wsX12_restoreSnapshot (va_wsS RX12 316 yX12_copyTable wsX12_copyTable) := goodIn_app (goodIn_of _ (by decide +kernel)) ggX12_restoreSnapshot_X12_copyTable
set_option maxRecDepth 20000 in
theorem ggX12_restoreSnapshot_X12_copyPairs : GoodIn wsX12_restoreSnapshot wsX12_copyPairs := goodIn_r _ [33] (by decide +kernel) (by decide +kernel)
set_option maxRecDepth 20000 in
theorem gX12_restoreSnapshot_X12_copyPairs : GoodIn wsX12_restoreSnapshot (va_wsS RX12 232 yX12_copyPairs wsX12_copyPairs) := goodIn_app (goodIn_of _ (by decide +kernel)) ggX12_restoreSnapshot_X12_copyPairs
set_option maxRecDepth 20000 in
theorem ggX12_restoreSnapshot_X12_closeOrder : GoodIn wsX12_restoreSnapshot wsX12_closeOrder := goodIn_r _ [37, 38, 23, 39, 40, 41, 42, 43, 44, 45, 46, 47, 48, 49, 50, 51, 52, 53, 54, 55, 56, 57, 58, 59, 60, 61, 62, 63, 64, 65, 66, 67, 68, 69, 70, 71, 72, 73, 74, 75, 76, 77, 78, 79, 80, 81, 82, 83, 84, 85, 86, 87, 88, 89, 90] (by decide +kernel) (by decide +kernel)
set_option maxRecDepth 20000 in
theorem gX12_restoreSnapshot_X12_closeOrder : GoodIn wsX12_restoreSnapshot (wsV RX12 142 RX12 yX12_closeOrder wsX12_closeOrder) := goodIn_app (goodIn_of _ (by decide +kernel)) ggX12_restoreSnapshot_X12_closeOrder
theorem dX12_restoreSnapshot_0 : decode cX12_restoreSnapshot 0 = .ok (.aload_n 0, 1) := by decide +kernel
theorem dX12_restoreSnapshot_1 : decode cX12_restoreSnapshot 1 = .ok (.getfield 303, 3) := by decide +kernel
theorem dX12_restoreSnapshot_4 : decode cX12_restoreSnapshot 4 = .ok (.ifCond .ne 6, 3) := by decide +kernel
theorem dX12_restoreSnapshot_7 : decode cX12_restoreSnapshot 7 = .ok (.bipush (-2), 2) := by decide +kernel
theorem dX12_restoreSnapshot_9 : decode cX12_restoreSnapshot 9 = .ok (.ireturn, 1) := by decide +kernel
theorem dX12_restoreSnapshot_10 : decode cX12_restoreSnapshot 10 = .ok (.aload_n 0, 1) := by decide +kernel
theorem dX12_restoreSnapshot_11 : decode cX12_restoreSnapshot 11 = .ok (.aload_n 0, 1) := by decide +kernel
theorem dX12_restoreSnapshot_12 : decode cX12_restoreSnapshot 12 = .ok (.getfield 307, 3) := by decide +kernel
theorem dX12_restoreSnapshot_15 : decode cX12_restoreSnapshot 15 = .ok (.putfield 132, 3) := by decide +kernel
theorem dX12_restoreSnapshot_18 : decode cX12_restoreSnapshot 18 = .ok (.aload_n 0, 1) := by decide +kernel
theorem dX12_restoreSnapshot_19 : decode cX12_restoreSnapshot 19 = .ok (.aload_n 0, 1) := by decide +kernel
theorem dX12_restoreSnapshot_20 : decode cX12_restoreSnapshot 20 = .ok (.getfield 310, 3) := by decide +kernel
theorem dX12_restoreSnapshot_23 : decode cX12_restoreSnapshot 23 = .ok (.putfield 135, 3) := by decide +kernel
theorem dX12_restoreSnapshot_26 : decode cX12_restoreSnapshot 26 = .ok (.aload_n 0, 1) := by decide +kernel
theorem dX12_restoreSnapshot_27 : decode cX12_restoreSnapshot 27 = .ok (.aload_n 0, 1) := by decide +kernel
theorem dX12_restoreSnapshot_28 : decode cX12_restoreSnapshot 28 = .ok (.getfield 313, 3) := by decide +kernel
theorem dX12_restoreSnapshot_31 : decode cX12_restoreSnapshot 31 = .ok (.putfield 255, 3) := by decide +kernel
theorem dX12_restoreSnapshot_34 : decode cX12_restoreSnapshot 34 = .ok (.aload_n 0, 1) := by decide +kernel
theorem dX12_restoreSnapshot_35 : decode cX12_restoreSnapshot 35 = .ok (.getfield 104, 3) := by decide +kernel
theorem dX12_restoreSnapshot_38 : decode cX12_restoreSnapshot 38 = .ok (.aload_n 0, 1) := by decide +kernel
theorem dX12_restoreSnapshot_39 : decode cX12_restoreSnapshot 39 = .ok (.getfield 27, 3) := by decide +kernel
theorem dX12_restoreSnapshot_42 : decode cX12_restoreSnapshot 42 = .ok (.invokestatic 228, 3) := by decide +kernel
theorem dX12_restoreSnapshot_45 : decode cX12_restoreSnapshot 45 = .ok (.aload_n 0, 1) := by decide +kernel
theorem dX12_restoreSnapshot_46 : decode cX12_restoreSnapshot 46 = .ok (.getfield 107, 3) := by decide +kernel
theorem dX12_restoreSnapshot_49 : decode cX12_restoreSnapshot 49 = .ok (.aload_n 0, 1) := by decide +kernel
theorem dX12_restoreSnapshot_50 : decode cX12_restoreSnapshot 50 = .ok (.getfield 17, 3) := by decide +kernel
theorem dX12_restoreSnapshot_53 : decode cX12_restoreSnapshot 53 = .ok (.invokestatic 228, 3) := by decide +kernel
theorem dX12_restoreSnapshot_56 : decode cX12_restoreSnapshot 56 = .ok (.aload_n 0, 1) := by decide +kernel
theorem dX12_restoreSnapshot_57 : decode cX12_restoreSnapshot 57 = .ok (.getfield 110, 3) := by decide +kernel
theorem dX12_restoreSnapshot_60 : decode cX12_restoreSnapshot 60 = .ok (.aload_n 0, 1) := by decide +kernel
theorem dX12_restoreSnapshot_61 : decode cX12_restoreSnapshot 61 = .ok (.getfield 21, 3) := by decide +kernel
theorem dX12_restoreSnapshot_64 : decode cX12_restoreSnapshot 64 = .ok (.invokestatic 228, 3) := by decide +kernel
theorem dX12_restoreSnapshot_67 : decode cX12_restoreSnapshot 67 = .ok (.aload_n 0, 1) := by decide +kernel
theorem dX12_restoreSnapshot_68 : decode cX12_restoreSnapshot 68 = .ok (.getfield 113, 3) := by decide +kernel
theorem dX12_restoreSnapshot_71 : decode cX12_restoreSnapshot 71 = .ok (.aload_n 0, 1) := by decide +kernel
theorem dX12_restoreSnapshot_72 : decode cX12_restoreSnapshot 72 = .ok (.getfield 24, 3) := by decide +kernel
theorem dX12_restoreSnapshot_75 : decode cX12_restoreSnapshot 75 = .ok (.invokestatic 228, 3) := by decide +kernel
theorem dX12_restoreSnapshot_78 : decode cX12_restoreSnapshot 78 = .ok (.aload_n 0, 1) := by decide +kernel
theorem dX12_restoreSnapshot_79 : decode cX12_restoreSnapshot 79 = .ok (.getfield 116, 3) := by decide +kernel
theorem dX12_restoreSnapshot_82 : decode cX12_restoreSnapshot 82 = .ok (.aload_n 0, 1) := by decide +kernel
theorem dX12_restoreSnapshot_83 : decode cX12_restoreSnapshot 83 = .ok (.getfield 72, 3) := by decide +kernel
theorem dX12_restoreSnapshot_86 : decode cX12_restoreSnapshot 86 = .ok (.invokestatic 228, 3) := by decide +kernel
theorem dX12_restoreSnapshot_89 : decode cX12_restoreSnapshot 89 = .ok (.aload_n 0, 1) := by decide +kernel
theorem dX12_restoreSnapshot_90 : decode cX12_restoreSnapshot 90 = .ok (.getfield 119, 3) := by decide +kernel
theorem dX12_restoreSnapshot_93 : decode cX12_restoreSnapshot 93 = .ok (.aload_n 0, 1) := by decide +kernel
theorem dX12_restoreSnapshot_94 : decode cX12_restoreSnapshot 94 = .ok (.getfield 32, 3) := by decide +kernel
theorem dX12_restoreSnapshot_97 : decode cX12_restoreSnapshot 97 = .ok (.invokestatic 316, 3) := by decide +kernel
theorem dX12_restoreSnapshot_100 : decode cX12_restoreSnapshot 100 = .ok (.aload_n 0, 1) := by decide +kernel
theorem dX12_restoreSnapshot_101 : decode cX12_restoreSnapshot 101 = .ok (.getfield 122, 3) := by decide +kernel
theorem dX12_restoreSnapshot_104 : decode cX12_restoreSnapshot 104 = .ok (.aload_n 0, 1) := by decide +kernel
theorem dX12_restoreSnapshot_105 : decode cX12_restoreSnapshot 105 = .ok (.getfield 69, 3) := by decide +kernel
theorem dX12_restoreSnapshot_108 : decode cX12_restoreSnapshot 108 = .ok (.invokestatic 316, 3) := by decide +kernel
theorem dX12_restoreSnapshot_111 : decode cX12_restoreSnapshot 111 = .ok (.aload_n 0, 1) := by decide +kernel
theorem dX12_restoreSnapshot_112 : decode cX12_restoreSnapshot 112 = .ok (.getfield 125, 3) := by decide +kernel
theorem dX12_restoreSnapshot_115 : decode cX12_restoreSnapshot 115 = .ok (.aload_n 0, 1) := by decide +kernel
theorem dX12_restoreSnapshot_116 : decode cX12_restoreSnapshot 116 = .ok (.getfield 11, 3) := by decide +kernel
theorem dX12_restoreSnapshot_119 : decode cX12_restoreSnapshot 119 = .ok (.invokestatic 232, 3) := by decide +kernel
theorem dX12_restoreSnapshot_122 : decode cX12_restoreSnapshot 122 = .ok (.aload_n 0, 1) := by decide +kernel
theorem dX12_restoreSnapshot_123 : decode cX12_restoreSnapshot 123 = .ok (.invokevirtual 142, 3) := by decide +kernel
theorem dX12_restoreSnapshot_126 : decode cX12_restoreSnapshot 126 = .ok (.aload_n 0, 1) := by decide +kernel
theorem dX12_restoreSnapshot_127 : decode cX12_restoreSnapshot 127 = .ok (.getfield 132, 3) := by decide +kernel
theorem dX12_restoreSnapshot_130 : decode cX12_restoreSnapshot 130 = .ok (.ireturn, 1) := by decide +kernel
theorem dJ6_bitCount_0f7a4_0 : decode cJ6_bitCount_0f7a4 0 = .ok (.iload_n 0, 1) := by decide +kernel
theorem dJ6_bitCount_0f7a4_1 : decode cJ6_bitCount_0f7a4 1 = .ok (.iload_n 0, 1) := by decide +kernel
theorem dJ6_bitCount_0f7a4_2 : decode cJ6_bitCount_0f7a4 2 = .ok (.iconst 1, 1) := by decide +kernel
theorem dJ6_bitCount_0f7a4_3 : decode cJ6_bitCount_0f7a4 3 = .ok (.iushr, 1) := by decide +kernel
theorem dJ6_bitCount_0f7a4_4 : decode cJ6_bitCount_0f7a4 4 = .ok (.ldc_w 265, 3) := by decide +kernel
theorem dJ6_bitCount_0f7a4_7 : decode cJ6_bitCount_0f7a4 7 = .ok (.iand, 1) := by decide +kernel
theorem dJ6_bitCount_0f7a4_8 : decode cJ6_bitCount_0f7a4 8 = .ok (.isub, 1) := by decide +kernel
theorem dJ6_bitCount_0f7a4_9 : decode cJ6_bitCount_0f7a4 9 = .ok (.istore_n 0, 1) := by decide +kernel
theorem dJ6_bitCount_0f7a4_10 : decode cJ6_bitCount_0f7a4 10 = .ok (.iload_n 0, 1) := by decide +kernel
theorem dJ6_bitCount_0f7a4_11 : decode cJ6_bitCount_0f7a4 11 = .ok (.ldc_w 266, 3) := by decide +kernel
theorem dJ6_bitCount_0f7a4_14 : decode cJ6_bitCount_0f7a4 14 = .ok (.iand, 1) := by decide +kernel
theorem dJ6_bitCount_0f7a4_15 : decode cJ6_bitCount_0f7a4 15 = .ok (.iload_n 0, 1) := by decide +kernel
theorem dJ6_bitCount_0f7a4_16 : decode cJ6_bitCount_0f7a4 16 = .ok (.iconst 2, 1) := by decide +kernel
theorem dJ6_bitCount_0f7a4_17 : decode cJ6_bitCount_0f7a4 17 = .ok (.iushr, 1) := by decide +kernel
theorem dJ6_bitCount_0f7a4_18 : decode cJ6_bitCount_0f7a4 18 = .ok (.ldc_w 266, 3) := by decide +kernel
theorem dJ6_bitCount_0f7a4_21 : decode cJ6_bitCount_0f7a4 21 = .ok (.iand, 1) := by decide +kernel
theorem dJ6_bitCount_0f7a4_22 : decode cJ6_bitCount_0f7a4 22 = .ok (.iadd, 1) := by decide +kernel
theorem dJ6_bitCount_0f7a4_23 : decode cJ6_bitCount_0f7a4 23 = .ok (.istore_n 0, 1) := by decide +kernel
theorem dJ6_bitCount_0f7a4_24 : decode cJ6_bitCount_0f7a4 24 = .ok (.iload_n 0, 1) := by decide +kernel
theorem dJ6_bitCount_0f7a4_25 : decode cJ6_bitCount_0f7a4 25 = .ok (.iload_n 0, 1) := by decide +kernel
theorem dJ6_bitCount_0f7a4_26 : decode cJ6_bitCount_0f7a4 26 = .ok (.iconst 4, 1) := by decide +kernel
theorem dJ6_bitCount_0f7a4_27 : decode cJ6_bitCount_0f7a4 27 = .ok (.iushr, 1) := by decide +kernel
theorem dJ6_bitCount_0f7a4_28 : decode cJ6_bitCount_0f7a4 28 = .ok (.iadd, 1) := by decide +kernel
theorem dJ6_bitCount_0f7a4_29 : decode cJ6_bitCount_0f7a4 29 = .ok (.ldc_w 267, 3) := by decide +kernel
theorem dJ6_bitCount_0f7a4_32 : decode cJ6_bitCount_0f7a4 32 = .ok (.iand, 1) := by decide +kernel
theorem dJ6_bitCount_0f7a4_33 : decode cJ6_bitCount_0f7a4 33 = .ok (.istore_n 0, 1) := by decide +kernel
theorem dJ6_bitCount_0f7a4_34 : decode cJ6_bitCount_0f7a4 34 = .ok (.iload_n 0, 1) := by decide +kernel
theorem dJ6_bitCount_0f7a4_35 : decode cJ6_bitCount_0f7a4 35 = .ok (.iload_n 0, 1) := by decide +kernel
theorem dJ6_bitCount_0f7a4_36 : decode cJ6_bitCount_0f7a4 36 = .ok (.bipush 8, 2) := by decide +kernel
theorem dJ6_bitCount_0f7a4_38 : decode cJ6_bitCount_0f7a4 38 = .ok (.iushr, 1) := by decide +kernel
theorem dJ6_bitCount_0f7a4_39 : decode cJ6_bitCount_0f7a4 39 = .ok (.iadd, 1) := by decide +kernel
theorem dJ6_bitCount_0f7a4_40 : decode cJ6_bitCount_0f7a4 40 = .ok (.istore_n 0, 1) := by decide +kernel
theorem dJ6_bitCount_0f7a4_41 : decode cJ6_bitCount_0f7a4 41 = .ok (.iload_n 0, 1) := by decide +kernel
theorem dJ6_bitCount_0f7a4_42 : decode cJ6_bitCount_0f7a4 42 = .ok (.iload_n 0, 1) := by decide +kernel
theorem dJ6_bitCount_0f7a4_43 : decode cJ6_bitCount_0f7a4 43 = .ok (.bipush 16, 2) := by decide +kernel
theorem dJ6_bitCount_0f7a4_45 : decode cJ6_bitCount_0f7a4 45 = .ok (.iushr, 1) := by decide +kernel
theorem dJ6_bitCount_0f7a4_46 : decode cJ6_bitCount_0f7a4 46 = .ok (.iadd, 1) := by decide +kernel
theorem dJ6_bitCount_0f7a4_47 : decode cJ6_bitCount_0f7a4 47 = .ok (.istore_n 0, 1) := by decide +kernel
theorem dJ6_bitCount_0f7a4_48 : decode cJ6_bitCount_0f7a4 48 = .ok (.iload_n 0, 1) := by decide +kernel
theorem dJ6_bitCount_0f7a4_49 : decode cJ6_bitCount_0f7a4 49 = .ok (.bipush 63, 2) := by decide +kernel
theorem dJ6_bitCount_0f7a4_51 : decode cJ6_bitCount_0f7a4 51 = .ok (.iand, 1) := by decide +kernel
theorem dJ6_bitCount_0f7a4_52 : decode cJ6_bitCount_0f7a4 52 = .ok (.ireturn, 1) := by decide +kernel
theorem dJ9_min_7cf53_0 : decode cJ9_min_7cf53 0 = .ok (.iload_n 0, 1) := by decide +kernel
theorem dJ9_min_7cf53_1 : decode cJ9_min_7cf53 1 = .ok (.iload_n 1, 1) := by decide +kernel
theorem dJ9_min_7cf53_2 : decode cJ9_min_7cf53 2 = .ok (.if_icmp .gt 7, 3) := by decide +kernel
theorem dJ9_min_7cf53_5 : decode cJ9_min_7cf53 5 = .ok (.iload_n 0, 1) := by decide +kernel
theorem dJ9_min_7cf53_6 : decode cJ9_min_7cf53 6 = .ok (.goto 4, 3) := by decide +kernel
theorem dJ9_min_7cf53_9 : decode cJ9_min_7cf53 9 = .ok (.iload_n 1, 1) := by decide +kernel
theorem dJ9_min_7cf53_10 : decode cJ9_min_7cf53 10 = .ok (.ireturn, 1) := by decide +kernel
theorem dJ7_fill_d0a16_0 : decode cJ7_fill_d0a16 0 = .ok (.iconst 0, 1) := by decide +kernel
theorem dJ7_fill_d0a16_1 : decode cJ7_fill_d0a16 1 = .ok (.istore_n 3, 1) := by decide +kernel
theorem dJ7_fill_d0a16_2 : decode cJ7_fill_d0a16 2 = .ok (.aload_n 0, 1) := by decide +kernel
theorem dJ7_fill_d0a16_3 : decode cJ7_fill_d0a16 3 = .ok (.arraylength, 1) := by decide +kernel
theorem dJ7_fill_d0a16_4 : decode cJ7_fill_d0a16 4 = .ok (.istore 4, 2) := by decide +kernel
theorem dJ7_fill_d0a16_6 : decode cJ7_fill_d0a16 6 = .ok (.iload_n 3, 1) := by decide +kernel
theorem dJ7_fill_d0a16_7 : decode cJ7_fill_d0a16 7 = .ok (.iload 4, 2) := by decide +kernel
theorem dJ7_fill_d0a16_9 : decode cJ7_fill_d0a16 9 = .ok (.if_icmp .ge 13, 3) := by decide +kernel
theorem dJ7_fill_d0a16_12 : decode cJ7_fill_d0a16 12 = .ok (.aload_n 0, 1) := by decide +kernel
theorem dJ7_fill_d0a16_13 : decode cJ7_fill_d0a16 13 = .ok (.iload_n 3, 1) := by decide +kernel
theorem dJ7_fill_d0a16_14 : decode cJ7_fill_d0a16 14 = .ok (.lload_n 1, 1) := by decide +kernel
theorem dJ7_fill_d0a16_15 : decode cJ7_fill_d0a16 15 = .ok (.lastore, 1) := by decide +kernel
theorem dJ7_fill_d0a16_16 : decode cJ7_fill_d0a16 16 = .ok (.iinc 3 1, 3) := by decide +kernel
theorem dJ7_fill_d0a16_19 : decode cJ7_fill_d0a16 19 = .ok (.goto (-13), 3) := by decide +kernel
theorem dJ7_fill_d0a16_22 : decode cJ7_fill_d0a16 22 = .ok (.return_, 1) := by decide +kernel
theorem dJ7_fill_53178_0 : decode cJ7_fill_53178 0 = .ok (.iconst 0, 1) := by decide +kernel
theorem dJ7_fill_53178_1 : decode cJ7_fill_53178 1 = .ok (.istore_n 2, 1) := by decide +kernel
theorem dJ7_fill_53178_2 : decode cJ7_fill_53178 2 = .ok (.aload_n 0, 1) := by decide +kernel
theorem dJ7_fill_53178_3 : decode cJ7_fill_53178 3 = .ok (.arraylength, 1) := by decide +kernel
theorem dJ7_fill_53178_4 : decode cJ7_fill_53178 4 = .ok (.istore_n 3, 1) := by decide +kernel
theorem dJ7_fill_53178_5 : decode cJ7_fill_53178 5 = .ok (.iload_n 2, 1) := by decide +kernel
theorem dJ7_fill_53178_6 : decode cJ7_fill_53178 6 = .ok (.iload_n 3, 1) := by decide +kernel
theorem dJ7_fill_53178_7 : decode cJ7_fill_53178 7 = .ok (.if_icmp .ge 13, 3) := by decide +kernel
theorem dJ7_fill_53178_10 : decode cJ7_fill_53178 10 = .ok (.aload_n 0, 1) := by decide +kernel
theorem dJ7_fill_53178_11 : decode cJ7_fill_53178 11 = .ok (.iload_n 2, 1) := by decide +kernel
theorem dJ7_fill_53178_12 : decode cJ7_fill_53178 12 = .ok (.iload_n 1, 1) := by decide +kernel
theorem dJ7_fill_53178_13 : decode cJ7_fill_53178 13 = .ok (.iastore, 1) := by decide +kernel
theorem dJ7_fill_53178_14 : decode cJ7_fill_53178 14 = .ok (.iinc 2 1, 3) := by decide +kernel
theorem dJ7_fill_53178_17 : decode cJ7_fill_53178 17 = .ok (.goto (-12), 3) := by decide +kernel
theorem dJ7_fill_53178_20 : decode cJ7_fill_53178 20 = .ok (.return_, 1) := by decide +kernel
abbrev vwCl : List vw_C := [(RX0, TX0, 4), (RX1, TX1, 2), (RX2, TX2, 2), (RX3, TX3, 6), (RX4, TX4, 5), (RX5, TX5, 2), (RX6, TX6, 2), (RX7, TX7, 3), (RX8, TX8, 3), (RX9, TX9, 10), (RX11, TX11, 16), (RX12, TX12, 52)]
