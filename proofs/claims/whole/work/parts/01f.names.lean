theorem dX12_saveReachable_40 : decode cX12_saveReachable 40 = .ok (.aload_n 0, 1) := by decide +kernel
theorem dX12_saveReachable_41 : decode cX12_saveReachable 41 = .ok (.iload_n 2, 1) := by decide +kernel
theorem dX12_saveReachable_42 : decode cX12_saveReachable 42 = .ok (.invokevirtual 154, 3) := by decide +kernel
theorem dX12_saveReachable_45 : decode cX12_saveReachable 45 = .ok (.i2l, 1) := by decide +kernel
theorem dX12_saveReachable_46 : decode cX12_saveReachable 46 = .ok (.lastore, 1) := by decide +kernel
theorem dX12_saveReachable_47 : decode cX12_saveReachable 47 = .ok (.iinc 2 1, 3) := by decide +kernel
theorem dX12_saveReachable_50 : decode cX12_saveReachable 50 = .ok (.goto (-25), 3) := by decide +kernel
theorem dX12_saveReachable_53 : decode cX12_saveReachable 53 = .ok (.aload_n 0, 1) := by decide +kernel
theorem dX12_saveReachable_54 : decode cX12_saveReachable 54 = .ok (.getfield 132, 3) := by decide +kernel
theorem dX12_saveReachable_57 : decode cX12_saveReachable 57 = .ok (.ireturn, 1) := by decide +kernel
set_option maxRecDepth 20000 in
theorem ggX12_compareReachable_X12_isArray : GoodIn wsX12_compareReachable wsX12_isArray := goodIn_r _ [7, 8, 9, 6, 10] (by decide +kernel) (by decide +kernel)
set_option maxRecDepth 20000 in
theorem gX12_compareReachable_X12_isArray : GoodIn wsX12_compareReachable (va_wsS RX12 296 yX12_isArray wsX12_isArray) := goodIn_app (goodIn_of _ (by decide +kernel)) ggX12_compareReachable_X12_isArray
set_option maxRecDepth 20000 in
theorem ggX12_compareReachable_X12_findDistances : GoodIn wsX12_compareReachable wsX12_findDistances := goodIn_r _ [14, 2, 15, 16, 17, 18, 23, 24, 25, 26, 27, 28, 29, 30, 31, 32, 33, 34, 35, 36, 37, 38, 39, 40, 41, 42, 43, 44, 45, 46, 47, 48, 49, 50, 51, 52, 53, 54, 55, 56, 57, 58, 59, 60, 61, 62, 63, 64, 65, 66, 67, 68, 69, 70, 71, 72, 73, 74] (by decide +kernel) (by decide +kernel)
set_option maxRecDepth 20000 in
theorem gX12_compareReachable_X12_findDistances : GoodIn wsX12_compareReachable (wsV RX12 151 RX12 yX12_findDistances wsX12_findDistances) := goodIn_app (goodIn_of _ (by decide +kernel)) ggX12_compareReachable_X12_findDistances
set_option maxRecDepth 20000 in
theorem ggX12_compareReachable_X12_reachedFrom : GoodIn wsX12_compareReachable wsX12_reachedFrom := goodIn_r _ [22, 2, 15, 23, 24, 25, 26, 27, 28, 29, 30, 31, 32, 33, 34, 35, 36, 37, 38, 39, 40, 41, 42, 43, 44, 45, 46, 47, 48, 49, 50, 51, 52, 53, 54, 55, 56, 57, 58, 59, 60, 61, 62, 63, 64, 65, 66, 67, 68, 69, 70, 71, 72, 73, 74] (by decide +kernel) (by decide +kernel)
set_option maxRecDepth 20000 in
theorem gX12_compareReachable_X12_reachedFrom : GoodIn wsX12_compareReachable (wsV RX12 154 RX12 yX12_reachedFrom wsX12_reachedFrom) := goodIn_app (goodIn_of _ (by decide +kernel)) ggX12_compareReachable_X12_reachedFrom
theorem dX12_compareReachable_0 : decode cX12_compareReachable 0 = .ok (.iload_n 1, 1) := by decide +kernel
theorem dX12_compareReachable_1 : decode cX12_compareReachable 1 = .ok (.invokestatic 296, 3) := by decide +kernel
theorem dX12_compareReachable_4 : decode cX12_compareReachable 4 = .ok (.ifCond .ne 5, 3) := by decide +kernel
theorem dX12_compareReachable_7 : decode cX12_compareReachable 7 = .ok (.iconst (-1), 1) := by decide +kernel
theorem dX12_compareReachable_8 : decode cX12_compareReachable 8 = .ok (.ireturn, 1) := by decide +kernel
theorem dX12_compareReachable_9 : decode cX12_compareReachable 9 = .ok (.aload_n 0, 1) := by decide +kernel
theorem dX12_compareReachable_10 : decode cX12_compareReachable 10 = .ok (.getfield 96, 3) := by decide +kernel
theorem dX12_compareReachable_13 : decode cX12_compareReachable 13 = .ok (.iload_n 1, 1) := by decide +kernel
theorem dX12_compareReachable_14 : decode cX12_compareReachable 14 = .ok (.iaload, 1) := by decide +kernel
theorem dX12_compareReachable_15 : decode cX12_compareReachable 15 = .ok (.ifCond .ge 6, 3) := by decide +kernel
theorem dX12_compareReachable_18 : decode cX12_compareReachable 18 = .ok (.bipush (-11), 2) := by decide +kernel
theorem dX12_compareReachable_20 : decode cX12_compareReachable 20 = .ok (.ireturn, 1) := by decide +kernel
theorem dX12_compareReachable_21 : decode cX12_compareReachable 21 = .ok (.aload_n 0, 1) := by decide +kernel
theorem dX12_compareReachable_22 : decode cX12_compareReachable 22 = .ok (.invokevirtual 151, 3) := by decide +kernel
theorem dX12_compareReachable_25 : decode cX12_compareReachable 25 = .ok (.aload_n 0, 1) := by decide +kernel
theorem dX12_compareReachable_26 : decode cX12_compareReachable 26 = .ok (.getfield 96, 3) := by decide +kernel
theorem dX12_compareReachable_29 : decode cX12_compareReachable 29 = .ok (.iload_n 1, 1) := by decide +kernel
theorem dX12_compareReachable_30 : decode cX12_compareReachable 30 = .ok (.iaload, 1) := by decide +kernel
theorem dX12_compareReachable_31 : decode cX12_compareReachable 31 = .ok (.aload_n 0, 1) := by decide +kernel
theorem dX12_compareReachable_32 : decode cX12_compareReachable 32 = .ok (.getfield 132, 3) := by decide +kernel
theorem dX12_compareReachable_35 : decode cX12_compareReachable 35 = .ok (.if_icmp .ge 12, 3) := by decide +kernel
theorem dX12_compareReachable_38 : decode cX12_compareReachable 38 = .ok (.aload_n 0, 1) := by decide +kernel
theorem dX12_compareReachable_39 : decode cX12_compareReachable 39 = .ok (.getfield 96, 3) := by decide +kernel
theorem dX12_compareReachable_42 : decode cX12_compareReachable 42 = .ok (.iload_n 1, 1) := by decide +kernel
theorem dX12_compareReachable_43 : decode cX12_compareReachable 43 = .ok (.iaload, 1) := by decide +kernel
theorem dX12_compareReachable_44 : decode cX12_compareReachable 44 = .ok (.goto 7, 3) := by decide +kernel
theorem dX12_compareReachable_47 : decode cX12_compareReachable 47 = .ok (.aload_n 0, 1) := by decide +kernel
theorem dX12_compareReachable_48 : decode cX12_compareReachable 48 = .ok (.getfield 132, 3) := by decide +kernel
theorem dX12_compareReachable_51 : decode cX12_compareReachable 51 = .ok (.istore_n 2, 1) := by decide +kernel
theorem dX12_compareReachable_52 : decode cX12_compareReachable 52 = .ok (.iconst 0, 1) := by decide +kernel
theorem dX12_compareReachable_53 : decode cX12_compareReachable 53 = .ok (.istore_n 3, 1) := by decide +kernel
theorem dX12_compareReachable_54 : decode cX12_compareReachable 54 = .ok (.iload_n 3, 1) := by decide +kernel
theorem dX12_compareReachable_55 : decode cX12_compareReachable 55 = .ok (.iload_n 2, 1) := by decide +kernel
theorem dX12_compareReachable_56 : decode cX12_compareReachable 56 = .ok (.if_icmp .ge 29, 3) := by decide +kernel
theorem dX12_compareReachable_59 : decode cX12_compareReachable 59 = .ok (.aload_n 0, 1) := by decide +kernel
theorem dX12_compareReachable_60 : decode cX12_compareReachable 60 = .ok (.getfield 101, 3) := by decide +kernel
theorem dX12_compareReachable_63 : decode cX12_compareReachable 63 = .ok (.iload_n 1, 1) := by decide +kernel
theorem dX12_compareReachable_64 : decode cX12_compareReachable 64 = .ok (.aaload, 1) := by decide +kernel
theorem dX12_compareReachable_65 : decode cX12_compareReachable 65 = .ok (.iload_n 3, 1) := by decide +kernel
theorem dX12_compareReachable_66 : decode cX12_compareReachable 66 = .ok (.laload, 1) := by decide +kernel
theorem dX12_compareReachable_67 : decode cX12_compareReachable 67 = .ok (.aload_n 0, 1) := by decide +kernel
theorem dX12_compareReachable_68 : decode cX12_compareReachable 68 = .ok (.iload_n 3, 1) := by decide +kernel
theorem dX12_compareReachable_69 : decode cX12_compareReachable 69 = .ok (.invokevirtual 154, 3) := by decide +kernel
theorem dX12_compareReachable_72 : decode cX12_compareReachable 72 = .ok (.i2l, 1) := by decide +kernel
theorem dX12_compareReachable_73 : decode cX12_compareReachable 73 = .ok (.lcmp, 1) := by decide +kernel
theorem dX12_compareReachable_74 : decode cX12_compareReachable 74 = .ok (.ifCond .eq 5, 3) := by decide +kernel
theorem dX12_compareReachable_77 : decode cX12_compareReachable 77 = .ok (.iload_n 3, 1) := by decide +kernel
theorem dX12_compareReachable_78 : decode cX12_compareReachable 78 = .ok (.ireturn, 1) := by decide +kernel
theorem dX12_compareReachable_79 : decode cX12_compareReachable 79 = .ok (.iinc 3 1, 3) := by decide +kernel
theorem dX12_compareReachable_82 : decode cX12_compareReachable 82 = .ok (.goto (-28), 3) := by decide +kernel
theorem dX12_compareReachable_85 : decode cX12_compareReachable 85 = .ok (.aload_n 0, 1) := by decide +kernel
theorem dX12_compareReachable_86 : decode cX12_compareReachable 86 = .ok (.getfield 96, 3) := by decide +kernel
theorem dX12_compareReachable_89 : decode cX12_compareReachable 89 = .ok (.iload_n 1, 1) := by decide +kernel
theorem dX12_compareReachable_90 : decode cX12_compareReachable 90 = .ok (.iaload, 1) := by decide +kernel
theorem dX12_compareReachable_91 : decode cX12_compareReachable 91 = .ok (.aload_n 0, 1) := by decide +kernel
theorem dX12_compareReachable_92 : decode cX12_compareReachable 92 = .ok (.getfield 132, 3) := by decide +kernel
theorem dX12_compareReachable_95 : decode cX12_compareReachable 95 = .ok (.if_icmp .ne 8, 3) := by decide +kernel
theorem dX12_compareReachable_98 : decode cX12_compareReachable 98 = .ok (.bipush (-2), 2) := by decide +kernel
theorem dX12_compareReachable_100 : decode cX12_compareReachable 100 = .ok (.goto 4, 3) := by decide +kernel
theorem dX12_compareReachable_103 : decode cX12_compareReachable 103 = .ok (.iload_n 2, 1) := by decide +kernel
theorem dX12_compareReachable_104 : decode cX12_compareReachable 104 = .ok (.ireturn, 1) := by decide +kernel
set_option maxRecDepth 20000 in
theorem ggX12_copyTable_X12_copyRow : GoodIn wsX12_copyTable wsX12_copyRow := goodIn_r _ [4] (by decide +kernel) (by decide +kernel)
set_option maxRecDepth 20000 in
theorem gX12_copyTable_X12_copyRow : GoodIn wsX12_copyTable (va_wsS RX12 228 yX12_copyRow wsX12_copyRow) := goodIn_app (goodIn_of _ (by decide +kernel)) ggX12_copyTable_X12_copyRow
theorem dX12_copyTable_0 : decode cX12_copyTable 0 = .ok (.iconst 0, 1) := by decide +kernel
theorem dX12_copyTable_1 : decode cX12_copyTable 1 = .ok (.istore_n 2, 1) := by decide +kernel
theorem dX12_copyTable_2 : decode cX12_copyTable 2 = .ok (.iload_n 2, 1) := by decide +kernel
theorem dX12_copyTable_3 : decode cX12_copyTable 3 = .ok (.aload_n 0, 1) := by decide +kernel
theorem dX12_copyTable_4 : decode cX12_copyTable 4 = .ok (.arraylength, 1) := by decide +kernel
theorem dX12_copyTable_5 : decode cX12_copyTable 5 = .ok (.if_icmp .ge 18, 3) := by decide +kernel
theorem dX12_copyTable_8 : decode cX12_copyTable 8 = .ok (.aload_n 0, 1) := by decide +kernel
theorem dX12_copyTable_9 : decode cX12_copyTable 9 = .ok (.iload_n 2, 1) := by decide +kernel
theorem dX12_copyTable_10 : decode cX12_copyTable 10 = .ok (.aaload, 1) := by decide +kernel
theorem dX12_copyTable_11 : decode cX12_copyTable 11 = .ok (.aload_n 1, 1) := by decide +kernel
theorem dX12_copyTable_12 : decode cX12_copyTable 12 = .ok (.iload_n 2, 1) := by decide +kernel
theorem dX12_copyTable_13 : decode cX12_copyTable 13 = .ok (.aaload, 1) := by decide +kernel
theorem dX12_copyTable_14 : decode cX12_copyTable 14 = .ok (.invokestatic 228, 3) := by decide +kernel
theorem dX12_copyTable_17 : decode cX12_copyTable 17 = .ok (.iinc 2 1, 3) := by decide +kernel
theorem dX12_copyTable_20 : decode cX12_copyTable 20 = .ok (.goto (-18), 3) := by decide +kernel
theorem dX12_copyTable_23 : decode cX12_copyTable 23 = .ok (.return_, 1) := by decide +kernel
set_option maxRecDepth 20000 in
theorem ggX12_saveSnapshot_X12_copyRow : GoodIn wsX12_saveSnapshot wsX12_copyRow := goodIn_r _ [27] (by decide +kernel) (by decide +kernel)
set_option maxRecDepth 20000 in
theorem gX12_saveSnapshot_X12_copyRow : GoodIn wsX12_saveSnapshot (va_wsS RX12 228 yX12_copyRow wsX12_copyRow) := goodIn_app (goodIn_of _ (by decide +kernel)) ggX12_saveSnapshot_X12_copyRow
set_option maxRecDepth 20000 in
theorem ggX12_saveSnapshot_X12_copyTable : GoodIn wsX12_saveSnapshot wsX12_copyTable := goodIn_r _ [30, 24, 25, 26, 27] (by decide +kernel) (by decide +kernel)
set_option maxRecDepth 20000 in
theorem gX12_saveSnapshot_X12_copyTable : GoodIn wsX12_saveSnapshot (va_wsS RX12 316 yX12_copyTable wsX12_copyTable) := goodIn_app (goodIn_of _ (by decide +kernel)) ggX12_saveSnapshot_X12_copyTable
set_option maxRecDepth 20000 in
theorem ggX12_saveSnapshot_X12_copyPairs : GoodIn wsX12_saveSnapshot wsX12_copyPairs := goodIn_r _ [33] (by decide +kernel) (by decide +kernel)
set_option maxRecDepth 20000 in
theorem gX12_saveSnapshot_X12_copyPairs : GoodIn wsX12_saveSnapshot (va_wsS RX12 232 yX12_copyPairs wsX12_copyPairs) := goodIn_app (goodIn_of _ (by decide +kernel)) ggX12_saveSnapshot_X12_copyPairs
theorem dX12_saveSnapshot_0 : decode cX12_saveSnapshot 0 = .ok (.aload_n 0, 1) := by decide +kernel
theorem dX12_saveSnapshot_1 : decode cX12_saveSnapshot 1 = .ok (.iconst 1, 1) := by decide +kernel
theorem dX12_saveSnapshot_2 : decode cX12_saveSnapshot 2 = .ok (.putfield 303, 3) := by decide +kernel
theorem dX12_saveSnapshot_5 : decode cX12_saveSnapshot 5 = .ok (.aload_n 0, 1) := by decide +kernel
theorem dX12_saveSnapshot_6 : decode cX12_saveSnapshot 6 = .ok (.aload_n 0, 1) := by decide +kernel
theorem dX12_saveSnapshot_7 : decode cX12_saveSnapshot 7 = .ok (.getfield 132, 3) := by decide +kernel
theorem dX12_saveSnapshot_10 : decode cX12_saveSnapshot 10 = .ok (.putfield 307, 3) := by decide +kernel
theorem dX12_saveSnapshot_13 : decode cX12_saveSnapshot 13 = .ok (.aload_n 0, 1) := by decide +kernel
theorem dX12_saveSnapshot_14 : decode cX12_saveSnapshot 14 = .ok (.aload_n 0, 1) := by decide +kernel
theorem dX12_saveSnapshot_15 : decode cX12_saveSnapshot 15 = .ok (.getfield 135, 3) := by decide +kernel
theorem dX12_saveSnapshot_18 : decode cX12_saveSnapshot 18 = .ok (.putfield 310, 3) := by decide +kernel
theorem dX12_saveSnapshot_21 : decode cX12_saveSnapshot 21 = .ok (.aload_n 0, 1) := by decide +kernel
theorem dX12_saveSnapshot_22 : decode cX12_saveSnapshot 22 = .ok (.aload_n 0, 1) := by decide +kernel
theorem dX12_saveSnapshot_23 : decode cX12_saveSnapshot 23 = .ok (.getfield 255, 3) := by decide +kernel
theorem dX12_saveSnapshot_26 : decode cX12_saveSnapshot 26 = .ok (.putfield 313, 3) := by decide +kernel
theorem dX12_saveSnapshot_29 : decode cX12_saveSnapshot 29 = .ok (.aload_n 0, 1) := by decide +kernel
theorem dX12_saveSnapshot_30 : decode cX12_saveSnapshot 30 = .ok (.getfield 27, 3) := by decide +kernel
theorem dX12_saveSnapshot_33 : decode cX12_saveSnapshot 33 = .ok (.aload_n 0, 1) := by decide +kernel
theorem dX12_saveSnapshot_34 : decode cX12_saveSnapshot 34 = .ok (.getfield 104, 3) := by decide +kernel
theorem dX12_saveSnapshot_37 : decode cX12_saveSnapshot 37 = .ok (.invokestatic 228, 3) := by decide +kernel
theorem dX12_saveSnapshot_40 : decode cX12_saveSnapshot 40 = .ok (.aload_n 0, 1) := by decide +kernel
theorem dX12_saveSnapshot_41 : decode cX12_saveSnapshot 41 = .ok (.getfield 17, 3) := by decide +kernel
theorem dX12_saveSnapshot_44 : decode cX12_saveSnapshot 44 = .ok (.aload_n 0, 1) := by decide +kernel
theorem dX12_saveSnapshot_45 : decode cX12_saveSnapshot 45 = .ok (.getfield 107, 3) := by decide +kernel
theorem dX12_saveSnapshot_48 : decode cX12_saveSnapshot 48 = .ok (.invokestatic 228, 3) := by decide +kernel
theorem dX12_saveSnapshot_51 : decode cX12_saveSnapshot 51 = .ok (.aload_n 0, 1) := by decide +kernel
theorem dX12_saveSnapshot_52 : decode cX12_saveSnapshot 52 = .ok (.getfield 21, 3) := by decide +kernel
theorem dX12_saveSnapshot_55 : decode cX12_saveSnapshot 55 = .ok (.aload_n 0, 1) := by decide +kernel
theorem dX12_saveSnapshot_56 : decode cX12_saveSnapshot 56 = .ok (.getfield 110, 3) := by decide +kernel
theorem dX12_saveSnapshot_59 : decode cX12_saveSnapshot 59 = .ok (.invokestatic 228, 3) := by decide +kernel
theorem dX12_saveSnapshot_62 : decode cX12_saveSnapshot 62 = .ok (.aload_n 0, 1) := by decide +kernel
theorem dX12_saveSnapshot_63 : decode cX12_saveSnapshot 63 = .ok (.getfield 24, 3) := by decide +kernel
theorem dX12_saveSnapshot_66 : decode cX12_saveSnapshot 66 = .ok (.aload_n 0, 1) := by decide +kernel
theorem dX12_saveSnapshot_67 : decode cX12_saveSnapshot 67 = .ok (.getfield 113, 3) := by decide +kernel
theorem dX12_saveSnapshot_70 : decode cX12_saveSnapshot 70 = .ok (.invokestatic 228, 3) := by decide +kernel
theorem dX12_saveSnapshot_73 : decode cX12_saveSnapshot 73 = .ok (.aload_n 0, 1) := by decide +kernel
theorem dX12_saveSnapshot_74 : decode cX12_saveSnapshot 74 = .ok (.getfield 72, 3) := by decide +kernel
theorem dX12_saveSnapshot_77 : decode cX12_saveSnapshot 77 = .ok (.aload_n 0, 1) := by decide +kernel
theorem dX12_saveSnapshot_78 : decode cX12_saveSnapshot 78 = .ok (.getfield 116, 3) := by decide +kernel
theorem dX12_saveSnapshot_81 : decode cX12_saveSnapshot 81 = .ok (.invokestatic 228, 3) := by decide +kernel
theorem dX12_saveSnapshot_84 : decode cX12_saveSnapshot 84 = .ok (.aload_n 0, 1) := by decide +kernel
theorem dX12_saveSnapshot_85 : decode cX12_saveSnapshot 85 = .ok (.getfield 32, 3) := by decide +kernel
theorem dX12_saveSnapshot_88 : decode cX12_saveSnapshot 88 = .ok (.aload_n 0, 1) := by decide +kernel
theorem dX12_saveSnapshot_89 : decode cX12_saveSnapshot 89 = .ok (.getfield 119, 3) := by decide +kernel
theorem dX12_saveSnapshot_92 : decode cX12_saveSnapshot 92 = .ok (.invokestatic 316, 3) := by decide +kernel
theorem dX12_saveSnapshot_95 : decode cX12_saveSnapshot 95 = .ok (.aload_n 0, 1) := by decide +kernel
theorem dX12_saveSnapshot_96 : decode cX12_saveSnapshot 96 = .ok (.getfield 69, 3) := by decide +kernel
theorem dX12_saveSnapshot_99 : decode cX12_saveSnapshot 99 = .ok (.aload_n 0, 1) := by decide +kernel
theorem dX12_saveSnapshot_100 : decode cX12_saveSnapshot 100 = .ok (.getfield 122, 3) := by decide +kernel
theorem dX12_saveSnapshot_103 : decode cX12_saveSnapshot 103 = .ok (.invokestatic 316, 3) := by decide +kernel
theorem dX12_saveSnapshot_106 : decode cX12_saveSnapshot 106 = .ok (.aload_n 0, 1) := by decide +kernel
theorem dX12_saveSnapshot_107 : decode cX12_saveSnapshot 107 = .ok (.getfield 11, 3) := by decide +kernel
theorem dX12_saveSnapshot_110 : decode cX12_saveSnapshot 110 = .ok (.aload_n 0, 1) := by decide +kernel
theorem dX12_saveSnapshot_111 : decode cX12_saveSnapshot 111 = .ok (.getfield 125, 3) := by decide +kernel
theorem dX12_saveSnapshot_114 : decode cX12_saveSnapshot 114 = .ok (.invokestatic 232, 3) := by decide +kernel
theorem dX12_saveSnapshot_117 : decode cX12_saveSnapshot 117 = .ok (.aload_n 0, 1) := by decide +kernel
theorem dX12_saveSnapshot_118 : decode cX12_saveSnapshot 118 = .ok (.getfield 132, 3) := by decide +kernel
theorem dX12_saveSnapshot_121 : decode cX12_saveSnapshot 121 = .ok (.ireturn, 1) := by decide +kernel
set_option maxRecDepth 20000 in
theorem ggX12_restoreSnapshot_X12_copyRow : GoodIn wsX12_restoreSnapshot wsX12_copyRow := goodIn_r _ [27] (by decide +kernel) (by decide +kernel)
set_option maxRecDepth 20000 in
theorem gX12_restoreSnapshot_X12_copyRow : GoodIn wsX12_restoreSnapshot (va_wsS RX12 228 yX12_copyRow wsX12_copyRow) := goodIn_app (goodIn_of _ (by decide +kernel)) ggX12_restoreSnapshot_X12_copyRow
set_option maxRecDepth 20000 in
theorem ggX12_restoreSnapshot_X12_copyTable : GoodIn wsX12_restoreSnapshot wsX12_copyTable := goodIn_r _ [30, 24, 25, 26, 27] (by decide +kernel) (by decide +kernel)
set_option maxRecDepth 20000 in
theorem gX12_restoreSnapshot_X12_copyTable : GoodIn wsX12_restoreSnapshot (va_wsS RX12 316 yX12_copyTable wsX12_copyTable) := goodIn_app (goodIn_of _ (by decide +kernel)) ggX12_restoreSnapshot_X12_copyTable
set_option maxRecDepth 20000 in
theorem ggX12_restoreSnapshot_X12_copyPairs : GoodIn wsX12_restoreSnapshot wsX12_copyPairs := goodIn_r _ [33] (by decide +kernel) (by decide +kernel)
set_option maxRecDepth 20000 in
theorem gX12_restoreSnapshot_X12_copyPairs : GoodIn wsX12_restoreSnapshot (va_wsS RX12 232 yX12_copyPairs wsX12_copyPairs) := goodIn_app (goodIn_of _ (by decide +kernel)) ggX12_restoreSnapshot_X12_copyPairs
set_option maxRecDepth 20000 in
theorem ggX12_restoreSnapshot_X12_closeOrder : GoodIn wsX12_restoreSnapshot wsX12_closeOrder := goodIn_r _ [37, 38, 23, 39, 40, 41, 42, 43, 44, 45, 46, 47, 48, 49, 50, 51, 52, 53, 54, 55, 56, 57, 58, 59, 60, 61, 62, 63, 64, 65, 66, 67, 68, 69, 70, 71, 72, 73, 74, 75, 76, 77, 78, 79, 80, 81, 82, 83, 84, 85, 86, 87, 88, 89, 90] (by decide +kernel) (by decide +kernel)
set_option maxRecDepth 20000 in
theorem gX12_restoreSnapshot_X12_closeOrder : GoodIn wsX12_restoreSnapshot (wsV RX12 142 RX12 yX12_closeOrder wsX12_closeOrder) := goodIn_app (goodIn_of _ (by decide +kernel)) ggX12_restoreSnapshot_X12_closeOrder
theorem dX12_restoreSnapshot_0 : decode cX12_restoreSnapshot 0 = .ok (.aload_n 0, 1) := by decide +kernel
theorem dX12_restoreSnapshot_1 : decode cX12_restoreSnapshot 1 = .ok (.getfield 303, 3) := by decide +kernel
theorem dX12_restoreSnapshot_4 : decode cX12_restoreSnapshot 4 = .ok (.ifCond .ne 6, 3) := by decide +kernel
theorem dX12_restoreSnapshot_7 : decode cX12_restoreSnapshot 7 = .ok (.bipush (-2), 2) := by decide +kernel
theorem dX12_restoreSnapshot_9 : decode cX12_restoreSnapshot 9 = .ok (.ireturn, 1) := by decide +kernel
theorem dX12_restoreSnapshot_10 : decode cX12_restoreSnapshot 10 = .ok (.aload_n 0, 1) := by decide +kernel
theorem dX12_restoreSnapshot_11 : decode cX12_restoreSnapshot 11 = .ok (.aload_n 0, 1) := by decide +kernel
theorem dX12_restoreSnapshot_12 : decode cX12_restoreSnapshot 12 = .ok (.getfield 307, 3) := by decide +kernel
theorem dX12_restoreSnapshot_15 : decode cX12_restoreSnapshot 15 = .ok (.putfield 132, 3) := by decide +kernel
theorem dX12_restoreSnapshot_18 : decode cX12_restoreSnapshot 18 = .ok (.aload_n 0, 1) := by decide +kernel
theorem dX12_restoreSnapshot_19 : decode cX12_restoreSnapshot 19 = .ok (.aload_n 0, 1) := by decide +kernel
theorem dX12_restoreSnapshot_20 : decode cX12_restoreSnapshot 20 = .ok (.getfield 310, 3) := by decide +kernel
theorem dX12_restoreSnapshot_23 : decode cX12_restoreSnapshot 23 = .ok (.putfield 135, 3) := by decide +kernel
theorem dX12_restoreSnapshot_26 : decode cX12_restoreSnapshot 26 = .ok (.aload_n 0, 1) := by decide +kernel
theorem dX12_restoreSnapshot_27 : decode cX12_restoreSnapshot 27 = .ok (.aload_n 0, 1) := by decide +kernel
theorem dX12_restoreSnapshot_28 : decode cX12_restoreSnapshot 28 = .ok (.getfield 313, 3) := by decide +kernel
theorem dX12_restoreSnapshot_31 : decode cX12_restoreSnapshot 31 = .ok (.putfield 255, 3) := by decide +kernel
theorem dX12_restoreSnapshot_34 : decode cX12_restoreSnapshot 34 = .ok (.aload_n 0, 1) := by decide +kernel
theorem dX12_restoreSnapshot_35 : decode cX12_restoreSnapshot 35 = .ok (.getfield 104, 3) := by decide +kernel
theorem dX12_restoreSnapshot_38 : decode cX12_restoreSnapshot 38 = .ok (.aload_n 0, 1) := by decide +kernel
theorem dX12_restoreSnapshot_39 : decode cX12_restoreSnapshot 39 = .ok (.getfield 27, 3) := by decide +kernel
theorem dX12_restoreSnapshot_42 : decode cX12_restoreSnapshot 42 = .ok (.invokestatic 228, 3) := by decide +kernel
theorem dX12_restoreSnapshot_45 : decode cX12_restoreSnapshot 45 = .ok (.aload_n 0, 1) := by decide +kernel
theorem dX12_restoreSnapshot_46 : decode cX12_restoreSnapshot 46 = .ok (.getfield 107, 3) := by decide +kernel
theorem dX12_restoreSnapshot_49 : decode cX12_restoreSnapshot 49 = .ok (.aload_n 0, 1) := by decide +kernel
theorem dX12_restoreSnapshot_50 : decode cX12_restoreSnapshot 50 = .ok (.getfield 17, 3) := by decide +kernel
theorem dX12_restoreSnapshot_53 : decode cX12_restoreSnapshot 53 = .ok (.invokestatic 228, 3) := by decide +kernel
theorem dX12_restoreSnapshot_56 : decode cX12_restoreSnapshot 56 = .ok (.aload_n 0, 1) := by decide +kernel
theorem dX12_restoreSnapshot_57 : decode cX12_restoreSnapshot 57 = .ok (.getfield 110, 3) := by decide +kernel
theorem dX12_restoreSnapshot_60 : decode cX12_restoreSnapshot 60 = .ok (.aload_n 0, 1) := by decide +kernel
theorem dX12_restoreSnapshot_61 : decode cX12_restoreSnapshot 61 = .ok (.getfield 21, 3) := by decide +kernel
theorem dX12_restoreSnapshot_64 : decode cX12_restoreSnapshot 64 = .ok (.invokestatic 228, 3) := by decide +kernel
theorem dX12_restoreSnapshot_67 : decode cX12_restoreSnapshot 67 = .ok (.aload_n 0, 1) := by decide +kernel
theorem dX12_restoreSnapshot_68 : decode cX12_restoreSnapshot 68 = .ok (.getfield 113, 3) := by decide +kernel
theorem dX12_restoreSnapshot_71 : decode cX12_restoreSnapshot 71 = .ok (.aload_n 0, 1) := by decide +kernel
theorem dX12_restoreSnapshot_72 : decode cX12_restoreSnapshot 72 = .ok (.getfield 24, 3) := by decide +kernel
theorem dX12_restoreSnapshot_75 : decode cX12_restoreSnapshot 75 = .ok (.invokestatic 228, 3) := by decide +kernel
theorem dX12_restoreSnapshot_78 : decode cX12_restoreSnapshot 78 = .ok (.aload_n 0, 1) := by decide +kernel
theorem dX12_restoreSnapshot_79 : decode cX12_restoreSnapshot 79 = .ok (.getfield 116, 3) := by decide +kernel
theorem dX12_restoreSnapshot_82 : decode cX12_restoreSnapshot 82 = .ok (.aload_n 0, 1) := by decide +kernel
theorem dX12_restoreSnapshot_83 : decode cX12_restoreSnapshot 83 = .ok (.getfield 72, 3) := by decide +kernel
theorem dX12_restoreSnapshot_86 : decode cX12_restoreSnapshot 86 = .ok (.invokestatic 228, 3) := by decide +kernel
theorem dX12_restoreSnapshot_89 : decode cX12_restoreSnapshot 89 = .ok (.aload_n 0, 1) := by decide +kernel
theorem dX12_restoreSnapshot_90 : decode cX12_restoreSnapshot 90 = .ok (.getfield 119, 3) := by decide +kernel
theorem dX12_restoreSnapshot_93 : decode cX12_restoreSnapshot 93 = .ok (.aload_n 0, 1) := by decide +kernel
theorem dX12_restoreSnapshot_94 : decode cX12_restoreSnapshot 94 = .ok (.getfield 32, 3) := by decide +kernel
theorem dX12_restoreSnapshot_97 : decode cX12_restoreSnapshot 97 = .ok (.invokestatic 316, 3) := by decide +kernel
theorem dX12_restoreSnapshot_100 : decode cX12_restoreSnapshot 100 = .ok (.aload_n 0, 1) := by decide +kernel
theorem dX12_restoreSnapshot_101 : decode cX12_restoreSnapshot 101 = .ok (.getfield 122, 3) := by decide +kernel
theorem dX12_restoreSnapshot_104 : decode cX12_restoreSnapshot 104 = .ok (.aload_n 0, 1) := by decide +kernel
theorem dX12_restoreSnapshot_105 : decode cX12_restoreSnapshot 105 = .ok (.getfield 69, 3) := by decide +kernel
theorem dX12_restoreSnapshot_108 : decode cX12_restoreSnapshot 108 = .ok (.invokestatic 316, 3) := by decide +kernel
theorem dX12_restoreSnapshot_111 : decode cX12_restoreSnapshot 111 = .ok (.aload_n 0, 1) := by decide +kernel
theorem dX12_restoreSnapshot_112 : decode cX12_restoreSnapshot 112 = .ok (.getfield 125, 3) := by decide +kernel
theorem dX12_restoreSnapshot_115 : decode cX12_restoreSnapshot 115 = .ok (.aload_n 0, 1) := by decide +kernel
theorem dX12_restoreSnapshot_116 : decode cX12_restoreSnapshot 116 = .ok (.getfield 11, 3) := by decide +kernel
theorem dX12_restoreSnapshot_119 : decode cX12_restoreSnapshot 119 = .ok (.invokestatic 232, 3) := by decide +kernel
theorem dX12_restoreSnapshot_122 : decode cX12_restoreSnapshot 122 = .ok (.aload_n 0, 1) := by decide +kernel
theorem dX12_restoreSnapshot_123 : decode cX12_restoreSnapshot 123 = .ok (.invokevirtual 142, 3) := by decide +kernel
theorem dX12_restoreSnapshot_126 : decode cX12_restoreSnapshot 126 = .ok (.aload_n 0, 1) := by decide +kernel
theorem dX12_restoreSnapshot_127 : decode cX12_restoreSnapshot 127 = .ok (.getfield 132, 3) := by decide +kernel
theorem dX12_restoreSnapshot_130 : decode cX12_restoreSnapshot 130 = .ok (.ireturn, 1) := by decide +kernel
theorem dJ6_bitCount_0f7a4_0 : decode cJ6_bitCount_0f7a4 0 = .ok (.iload_n 0, 1) := by decide +kernel
theorem dJ6_bitCount_0f7a4_1 : decode cJ6_bitCount_0f7a4 1 = .ok (.iload_n 0, 1) := by decide +kernel
theorem dJ6_bitCount_0f7a4_2 : decode cJ6_bitCount_0f7a4 2 = .ok (.iconst 1, 1) := by decide +kernel
theorem dJ6_bitCount_0f7a4_3 : decode cJ6_bitCount_0f7a4 3 = .ok (.iushr, 1) := by decide +kernel
theorem dJ6_bitCount_0f7a4_4 : decode cJ6_bitCount_0f7a4 4 = .ok (.ldc_w 265, 3) := by decide +kernel
theorem dJ6_bitCount_0f7a4_7 : decode cJ6_bitCount_0f7a4 7 = .ok (.iand, 1) := by decide +kernel
theorem dJ6_bitCount_0f7a4_8 : decode cJ6_bitCount_0f7a4 8 = .ok (.isub, 1) := by decide +kernel
theorem dJ6_bitCount_0f7a4_9 : decode cJ6_bitCount_0f7a4 9 = .ok (.istore_n 0, 1) := by decide +kernel
theorem dJ6_bitCount_0f7a4_10 : decode cJ6_bitCount_0f7a4 10 = .ok (.iload_n 0, 1) := by decide +kernel
theorem dJ6_bitCount_0f7a4_11 : decode cJ6_bitCount_0f7a4 11 = .ok (.ldc_w 266, 3) := by decide +kernel
theorem dJ6_bitCount_0f7a4_14 : decode cJ6_bitCount_0f7a4 14 = .ok (.iand, 1) := by decide +kernel
theorem dJ6_bitCount_0f7a4_15 : decode cJ6_bitCount_0f7a4 15 = .ok (.iload_n 0, 1) := by decide +kernel
theorem dJ6_bitCount_0f7a4_16 : decode cJ6_bitCount_0f7a4 16 = .ok (.iconst 2, 1) := by decide +kernel
theorem dJ6_bitCount_0f7a4_17 : decode cJ6_bitCount_0f7a4 17 = .ok (.iushr, 1) := by decide +kernel
theorem dJ6_bitCount_0f7a4_18 : decode cJ6_bitCount_0f7a4 18 = .ok (.ldc_w 266, 3) := by decide +kernel
theorem dJ6_bitCount_0f7a4_21 : decode cJ6_bitCount_0f7a4 21 = .ok (.iand, 1) := by decide +kernel
theorem dJ6_bitCount_0f7a4_22 : decode cJ6_bitCount_0f7a4 22 = .ok (.iadd, 1) := by decide +kernel
theorem dJ6_bitCount_0f7a4_23 : decode cJ6_bitCount_0f7a4 23 = .ok (.istore_n 0, 1) := by decide +kernel
theorem dJ6_bitCount_0f7a4_24 : decode cJ6_bitCount_0f7a4 24 = .ok (.iload_n 0, 1) := by decide +kernel
theorem dJ6_bitCount_0f7a4_25 : decode cJ6_bitCount_0f7a4 25 = .ok (.iload_n 0, 1) := by decide +kernel
theorem dJ6_bitCount_0f7a4_26 : decode cJ6_bitCount_0f7a4 26 = .ok (.iconst 4, 1) := by decide +kernel
theorem dJ6_bitCount_0f7a4_27 : decode cJ6_bitCount_0f7a4 27 = .ok (.iushr, 1) := by decide +kernel
theorem dJ6_bitCount_0f7a4_28 : decode cJ6_bitCount_0f7a4 28 = .ok (.iadd, 1) := by decide +kernel
theorem dJ6_bitCount_0f7a4_29 : decode cJ6_bitCount_0f7a4 29 = .ok (.ldc_w 267, 3) := by decide +kernel
theorem dJ6_bitCount_0f7a4_32 : decode cJ6_bitCount_0f7a4 32 = .ok (.iand, 1) := by decide +kernel
theorem dJ6_bitCount_0f7a4_33 : decode cJ6_bitCount_0f7a4 33 = .ok (.istore_n 0, 1) := by decide +kernel
theorem dJ6_bitCount_0f7a4_34 : decode cJ6_bitCount_0f7a4 34 = .ok (.iload_n 0, 1) := by decide +kernel
theorem dJ6_bitCount_0f7a4_35 : decode cJ6_bitCount_0f7a4 35 = .ok (.iload_n 0, 1) := by decide +kernel
theorem dJ6_bitCount_0f7a4_36 : decode cJ6_bitCount_0f7a4 36 = .ok (.bipush 8, 2) := by decide +kernel
theorem dJ6_bitCount_0f7a4_38 : decode cJ6_bitCount_0f7a4 38 = .ok (.iushr, 1) := by decide +kernel
theorem dJ6_bitCount_0f7a4_39 : decode cJ6_bitCount_0f7a4 39 = .ok (.iadd, 1) := by decide +kernel
theorem dJ6_bitCount_0f7a4_40 : decode cJ6_bitCount_0f7a4 40 = .ok (.istore_n 0, 1) := by decide +kernel
theorem dJ6_bitCount_0f7a4_41 : decode cJ6_bitCount_0f7a4 41 = .ok (.iload_n 0, 1) := by decide +kernel
theorem dJ6_bitCount_0f7a4_42 : decode cJ6_bitCount_0f7a4 42 = .ok (.iload_n 0, 1) := by decide +kernel
theorem dJ6_bitCount_0f7a4_43 : decode cJ6_bitCount_0f7a4 43 = .ok (.bipush 16, 2) := by decide +kernel
theorem dJ6_bitCount_0f7a4_45 : decode cJ6_bitCount_0f7a4 45 = .ok (.iushr, 1) := by decide +kernel
theorem dJ6_bitCount_0f7a4_46 : decode cJ6_bitCount_0f7a4 46 = .ok (.iadd, 1) := by decide +kernel
theorem dJ6_bitCount_0f7a4_47 : decode cJ6_bitCount_0f7a4 47 = .ok (.istore_n 0, 1) := by decide +kernel
theorem dJ6_bitCount_0f7a4_48 : decode cJ6_bitCount_0f7a4 48 = .ok (.iload_n 0, 1) := by decide +kernel
theorem dJ6_bitCount_0f7a4_49 : decode cJ6_bitCount_0f7a4 49 = .ok (.bipush 63, 2) := by decide +kernel
theorem dJ6_bitCount_0f7a4_51 : decode cJ6_bitCount_0f7a4 51 = .ok (.iand, 1) := by decide +kernel
theorem dJ6_bitCount_0f7a4_52 : decode cJ6_bitCount_0f7a4 52 = .ok (.ireturn, 1) := by decide +kernel
theorem dJ9_min_7cf53_0 : decode cJ9_min_7cf53 0 = .ok (.iload_n 0, 1) := by decide +kernel
theorem dJ9_min_7cf53_1 : decode cJ9_min_7cf53 1 = .ok (.iload_n 1, 1) := by decide +kernel
theorem dJ9_min_7cf53_2 : decode cJ9_min_7cf53 2 = .ok (.if_icmp .gt 7, 3) := by decide +kernel
theorem dJ9_min_7cf53_5 : decode cJ9_min_7cf53 5 = .ok (.iload_n 0, 1) := by decide +kernel
theorem dJ9_min_7cf53_6 : decode cJ9_min_7cf53 6 = .ok (.goto 4, 3) := by decide +kernel
theorem dJ9_min_7cf53_9 : decode cJ9_min_7cf53 9 = .ok (.iload_n 1, 1) := by decide +kernel
theorem dJ9_min_7cf53_10 : decode cJ9_min_7cf53 10 = .ok (.ireturn, 1) := by decide +kernel
theorem dJ7_fill_d0a16_0 : decode cJ7_fill_d0a16 0 = .ok (.iconst 0, 1) := by decide +kernel
theorem dJ7_fill_d0a16_1 : decode cJ7_fill_d0a16 1 = .ok (.istore_n 3, 1) := by decide +kernel
theorem dJ7_fill_d0a16_2 : decode cJ7_fill_d0a16 2 = .ok (.aload_n 0, 1) := by decide +kernel
theorem dJ7_fill_d0a16_3 : decode cJ7_fill_d0a16 3 = .ok (.arraylength, 1) := by decide +kernel
theorem dJ7_fill_d0a16_4 : decode cJ7_fill_d0a16 4 = .ok (.istore 4, 2) := by decide +kernel
theorem dJ7_fill_d0a16_6 : decode cJ7_fill_d0a16 6 = .ok (.iload_n 3, 1) := by decide +kernel
theorem dJ7_fill_d0a16_7 : decode cJ7_fill_d0a16 7 = .ok (.iload 4, 2) := by decide +kernel
theorem dJ7_fill_d0a16_9 : decode cJ7_fill_d0a16 9 = .ok (.if_icmp .ge 13, 3) := by decide +kernel
theorem dJ7_fill_d0a16_12 : decode cJ7_fill_d0a16 12 = .ok (.aload_n 0, 1) := by decide +kernel
theorem dJ7_fill_d0a16_13 : decode cJ7_fill_d0a16 13 = .ok (.iload_n 3, 1) := by decide +kernel
theorem dJ7_fill_d0a16_14 : decode cJ7_fill_d0a16 14 = .ok (.lload_n 1, 1) := by decide +kernel
theorem dJ7_fill_d0a16_15 : decode cJ7_fill_d0a16 15 = .ok (.lastore, 1) := by decide +kernel
theorem dJ7_fill_d0a16_16 : decode cJ7_fill_d0a16 16 = .ok (.iinc 3 1, 3) := by decide +kernel
theorem dJ7_fill_d0a16_19 : decode cJ7_fill_d0a16 19 = .ok (.goto (-13), 3) := by decide +kernel
theorem dJ7_fill_d0a16_22 : decode cJ7_fill_d0a16 22 = .ok (.return_, 1) := by decide +kernel
theorem dJ7_fill_53178_0 : decode cJ7_fill_53178 0 = .ok (.iconst 0, 1) := by decide +kernel
theorem dJ7_fill_53178_1 : decode cJ7_fill_53178 1 = .ok (.istore_n 2, 1) := by decide +kernel
theorem dJ7_fill_53178_2 : decode cJ7_fill_53178 2 = .ok (.aload_n 0, 1) := by decide +kernel
theorem dJ7_fill_53178_3 : decode cJ7_fill_53178 3 = .ok (.arraylength, 1) := by decide +kernel
theorem dJ7_fill_53178_4 : decode cJ7_fill_53178 4 = .ok (.istore_n 3, 1) := by decide +kernel
theorem dJ7_fill_53178_5 : decode cJ7_fill_53178 5 = .ok (.iload_n 2, 1) := by decide +kernel
theorem dJ7_fill_53178_6 : decode cJ7_fill_53178 6 = .ok (.iload_n 3, 1) := by decide +kernel
theorem dJ7_fill_53178_7 : decode cJ7_fill_53178 7 = .ok (.if_icmp .ge 13, 3) := by decide +kernel
theorem dJ7_fill_53178_10 : decode cJ7_fill_53178 10 = .ok (.aload_n 0, 1) := by decide +kernel
theorem dJ7_fill_53178_11 : decode cJ7_fill_53178 11 = .ok (.iload_n 2, 1) := by decide +kernel
theorem dJ7_fill_53178_12 : decode cJ7_fill_53178 12 = .ok (.iload_n 1, 1) := by decide +kernel
theorem dJ7_fill_53178_13 : decode cJ7_fill_53178 13 = .ok (.iastore, 1) := by decide +kernel
theorem dJ7_fill_53178_14 : decode cJ7_fill_53178 14 = .ok (.iinc 2 1, 3) := by decide +kernel
theorem dJ7_fill_53178_17 : decode cJ7_fill_53178 17 = .ok (.goto (-12), 3) := by decide +kernel
theorem dJ7_fill_53178_20 : decode cJ7_fill_53178 20 = .ok (.return_, 1) := by decide +kernel
set_option maxRecDepth 20000 in
theorem ggL_law_X11_init : GoodIn wsL_law wsX11_init := goodIn_r _ [9, 10, 11, 12, 13, 14, 15, 16, 17, 18, 19, 20, 21, 22, 23, 24, 25, 26, 27, 28, 29, 30, 31, 32, 33, 34, 35, 36, 37, 38, 39, 40, 41, 42, 43, 44, 45, 46, 47, 48, 49, 50, 51, 52, 53, 54, 55, 56, 57, 58, 59, 60, 61, 62, 63, 64, 65, 66, 67, 68, 69, 70, 71, 72, 73, 74, 75, 76, 77, 78, 79, 80, 81, 82, 83, 84, 85, 86, 87, 88, 89, 90, 91, 92, 93, 94, 95, 96, 97, 98, 99, 100, 101, 102, 103, 104, 105, 106, 107, 108, 109, 110, 111, 112, 113, 114, 115, 116, 117, 118, 119, 120, 121, 122, 123, 124, 125, 126, 127, 128, 129, 130, 131, 132, 133, 134, 135, 136, 137, 138, 139, 140, 141, 142, 1093, 1094, 1025, 1026, 1027, 1028, 1029, 1030, 1031, 1032, 1033, 1034, 1035, 1036, 1037, 1038, 1039, 1040, 1095, 1096, 1097, 1098, 1099, 1100, 1101, 1102, 1103, 1104, 1105, 1106, 1107, 1108, 1109, 1110, 1111, 1112, 1113, 1114, 1115, 1116, 1117, 1118, 1119, 1120, 1121, 1122, 1123, 1124, 1125, 1126, 1127, 1128, 1129, 1130, 1131] (by decide +kernel) (by decide +kernel)
set_option maxRecDepth 20000 in
theorem gL_law_X11_init : GoodIn wsL_law (wsX11_init) := ggL_law_X11_init
set_option maxRecDepth 20000 in
theorem ggL_law_X12_init : GoodIn wsL_law wsX12_init := goodIn_r _ [145, 146, 11, 12, 147, 148, 149, 150, 58, 151, 152, 153, 154, 155, 156, 157, 158, 159, 160, 161, 162, 163, 164, 165, 166, 167, 168, 169, 170, 171, 172, 173, 174, 175, 176, 177, 178, 137, 179, 180, 181, 182, 183, 184, 185, 186, 187, 1041, 1042, 1043, 1044, 1045, 1046, 1047, 1048, 1049, 1050, 1051, 1052, 1053, 1054, 1055, 1056, 1057, 1058, 1059, 1060, 1061, 1062, 1063, 1064, 1065, 1066, 1067, 1068, 1069, 1070, 1071, 1072, 1073, 1074, 1075, 1076, 1077, 1078, 1079, 1080, 1081, 1082, 1083, 1084, 1085, 1086, 1087, 1088, 1089, 1090, 1091, 1092] (by decide +kernel) (by decide +kernel)
set_option maxRecDepth 20000 in
theorem gL_law_X12_init : GoodIn wsL_law (wsX12_init) := ggL_law_X12_init
set_option maxRecDepth 20000 in
theorem ggL_law_X11_addGreater : GoodIn wsL_law wsX11_addGreater := goodIn_r _ [191, 16, 192, 193, 2, 194, 195, 15, 196, 197, 64, 198, 199, 200, 201, 202, 63, 203, 204, 205, 206, 207, 208, 209, 210, 211, 212, 213, 1025, 1026, 1027, 1028, 1029, 1030, 1031, 1032, 1033, 1034, 1035, 1036, 1037, 1038, 1039, 1040, 1093, 1094] (by decide +kernel) (by decide +kernel)
set_option maxRecDepth 20000 in
theorem gL_law_X11_addGreater : GoodIn wsL_law (wsV RL 13 RX11 yX11_addGreater wsX11_addGreater) := goodIn_app (goodIn_of _ (by decide +kernel)) ggL_law_X11_addGreater
set_option maxRecDepth 20000 in
theorem ggL_law_X12_addGreater : GoodIn wsL_law wsX12_addGreater := goodIn_r _ [217, 149, 150, 218, 219, 5, 220, 221, 222, 223, 224, 225, 226, 227, 1041, 1042, 1043, 1044, 1045, 1046, 1047, 1048, 1049, 1050, 1051, 1052, 1053, 1054, 1055, 1056, 1057, 1058, 1059, 1060, 1061, 1062, 1063, 1064, 1065, 1066, 1067, 1068, 1069, 1070, 1071, 1072, 1073, 1074, 1075, 1076, 1077, 1078, 1079, 1080, 1081, 1082, 1083, 1084, 1085, 1086, 1087, 1088, 1089, 1090, 1091, 1092] (by decide +kernel) (by decide +kernel)
set_option maxRecDepth 20000 in
theorem gL_law_X12_addGreater : GoodIn wsL_law (wsV RL 17 RX12 yX12_addGreater wsX12_addGreater) := goodIn_app (goodIn_of _ (by decide +kernel)) ggL_law_X12_addGreater
set_option maxRecDepth 20000 in
theorem ggL_law_X11_removeGreater : GoodIn wsL_law wsX11_removeGreater := goodIn_r _ [231, 16, 192, 193, 2, 194, 200, 15, 201, 202, 63, 198, 199, 232, 233, 234, 206, 207, 208, 209, 64, 210, 211, 212, 213, 1025, 1026, 1027, 1028, 1029, 1030, 1031, 1032, 1033, 1034, 1035, 1036, 1037, 1038, 1039, 1040, 1093, 1094] (by decide +kernel) (by decide +kernel)
set_option maxRecDepth 20000 in
theorem gL_law_X11_removeGreater : GoodIn wsL_law (wsV RL 18 RX11 yX11_removeGreater wsX11_removeGreater) := goodIn_app (goodIn_of _ (by decide +kernel)) ggL_law_X11_removeGreater
set_option maxRecDepth 20000 in
theorem ggL_law_X12_removeGreater : GoodIn wsL_law wsX12_removeGreater := goodIn_r _ [238, 149, 218, 219, 5, 220, 221, 222, 223, 224, 225, 226, 227, 150, 1041, 1042, 1043, 1044, 1045, 1046, 1047, 1048, 1049, 1050, 1051, 1052, 1053, 1054, 1055, 1056, 1057, 1058, 1059, 1060, 1061, 1062, 1063, 1064, 1065, 1066, 1067, 1068, 1069, 1070, 1071, 1072, 1073, 1074, 1075, 1076, 1077, 1078, 1079, 1080, 1081, 1082, 1083, 1084, 1085, 1086, 1087, 1088, 1089, 1090, 1091, 1092] (by decide +kernel) (by decide +kernel)
set_option maxRecDepth 20000 in
theorem gL_law_X12_removeGreater : GoodIn wsL_law (wsV RL 21 RX12 yX12_removeGreater wsX12_removeGreater) := goodIn_app (goodIn_of _ (by decide +kernel)) ggL_law_X12_removeGreater
set_option maxRecDepth 20000 in
theorem ggL_law_X11_isGreater : GoodIn wsL_law wsX11_isGreater := goodIn_r _ [242, 16, 192, 193, 2, 194, 195, 15, 196, 197, 64, 198, 199, 1025, 1026, 1027, 1028, 1029, 1030, 1031, 1032, 1033, 1034, 1035, 1036, 1037, 1038, 1039, 1040, 1093, 1094] (by decide +kernel) (by decide +kernel)
set_option maxRecDepth 20000 in
theorem gL_law_X11_isGreater : GoodIn wsL_law (wsV RL 22 RX11 yX11_isGreater wsX11_isGreater) := goodIn_app (goodIn_of _ (by decide +kernel)) ggL_law_X11_isGreater
set_option maxRecDepth 20000 in
theorem ggL_law_X12_isGreater : GoodIn wsL_law wsX12_isGreater := goodIn_r _ [246, 150, 218, 219, 5, 220, 221, 222, 223, 1041, 1042, 1043, 1044, 1045, 1046, 1047, 1048, 1049, 1050, 1051, 1052, 1053, 1054, 1055, 1056, 1057, 1058, 1059, 1060, 1061, 1062, 1063, 1064, 1065, 1066, 1067, 1068, 1069, 1070, 1071, 1072, 1073, 1074, 1075, 1076, 1077, 1078, 1079, 1080, 1081, 1082, 1083, 1084, 1085, 1086, 1087, 1088, 1089, 1090, 1091, 1092] (by decide +kernel) (by decide +kernel)
set_option maxRecDepth 20000 in
theorem gL_law_X12_isGreater : GoodIn wsL_law (wsV RL 25 RX12 yX12_isGreater wsX12_isGreater) := goodIn_app (goodIn_of _ (by decide +kernel)) ggL_law_X12_isGreater
set_option maxRecDepth 20000 in
theorem ggL_law_X11_useNaturalOrder : GoodIn wsL_law wsX11_useNaturalOrder := goodIn_r _ [250, 16, 251, 15, 252, 253, 63, 254, 255, 256, 257, 258, 259, 260, 116, 117, 118, 64, 1025, 1026, 1027, 1028, 1029, 1030, 1031, 1032, 1033, 1034, 1035, 1036, 1037, 1038, 1039, 1040, 1093, 1094] (by decide +kernel) (by decide +kernel)
set_option maxRecDepth 20000 in
theorem gL_law_X11_useNaturalOrder : GoodIn wsL_law (wsV RL 26 RX11 yX11_useNaturalOrder wsX11_useNaturalOrder) := goodIn_app (goodIn_of _ (by decide +kernel)) ggL_law_X11_useNaturalOrder
set_option maxRecDepth 20000 in
theorem ggL_law_X12_useNaturalOrder : GoodIn wsL_law wsX12_useNaturalOrder := goodIn_r _ [264, 149, 224, 225, 226, 5, 227, 150, 1041, 1042, 1043, 1044, 1045, 1046, 1047, 1048, 1049, 1050, 1051, 1052, 1053, 1054, 1055, 1056, 1057, 1058, 1059, 1060, 1061, 1062, 1063, 1064, 1065, 1066, 1067, 1068, 1069, 1070, 1071, 1072, 1073, 1074, 1075, 1076, 1077, 1078, 1079, 1080, 1081, 1082, 1083, 1084, 1085, 1086, 1087, 1088, 1089, 1090, 1091, 1092] (by decide +kernel) (by decide +kernel)
set_option maxRecDepth 20000 in
theorem gL_law_X12_useNaturalOrder : GoodIn wsL_law (wsV RL 30 RX12 yX12_useNaturalOrder wsX12_useNaturalOrder) := goodIn_app (goodIn_of _ (by decide +kernel)) ggL_law_X12_useNaturalOrder
set_option maxRecDepth 20000 in
theorem ggL_law_X11_addObject : GoodIn wsL_law wsX11_addObject := goodIn_r _ [268, 20, 269, 19, 270, 271, 68, 69, 1025, 1026, 1027, 1028, 1029, 1030, 1031, 1032, 1033, 1034, 1035, 1036, 1037, 1038, 1039, 1040, 1095, 1096, 1097, 1098, 1099, 1100] (by decide +kernel) (by decide +kernel)
set_option maxRecDepth 20000 in
theorem gL_law_X11_addObject : GoodIn wsL_law (wsV RL 31 RX11 yX11_addObject wsX11_addObject) := goodIn_app (goodIn_of _ (by decide +kernel)) ggL_law_X11_addObject
set_option maxRecDepth 20000 in
theorem ggL_law_X12_addObject : GoodIn wsL_law wsX12_addObject := goodIn_r _ [275, 276, 154, 1041, 1042, 1043, 1044, 1045, 1046, 1047, 1048, 1049, 1050, 1051, 1052, 1053, 1054, 1055, 1056, 1057, 1058, 1059, 1060, 1061, 1062, 1063, 1064, 1065, 1066, 1067, 1068, 1069, 1070, 1071, 1072, 1073, 1074, 1075, 1076, 1077, 1078, 1079, 1080, 1081, 1082, 1083, 1084, 1085, 1086, 1087, 1088, 1089, 1090, 1091, 1092] (by decide +kernel) (by decide +kernel)
set_option maxRecDepth 20000 in
theorem gL_law_X12_addObject : GoodIn wsL_law (wsV RL 34 RX12 yX12_addObject wsX12_addObject) := goodIn_app (goodIn_of _ (by decide +kernel)) ggL_law_X12_addObject
set_option maxRecDepth 20000 in
theorem ggL_law_X11_addStep : GoodIn wsL_law wsX11_addStep := goodIn_r _ [280, 20, 281, 19, 282, 283, 68, 192, 193, 2, 194, 284, 285, 286, 70, 71, 72, 73, 1025, 1026, 1027, 1028, 1029, 1030, 1031, 1032, 1033, 1034, 1035, 1036, 1037, 1038, 1039, 1040, 1095, 1096, 1097, 1098, 1099, 1100] (by decide +kernel) (by decide +kernel)
set_option maxRecDepth 20000 in
theorem gL_law_X11_addStep : GoodIn wsL_law (wsV RL 35 RX11 yX11_addStep wsX11_addStep) := goodIn_app (goodIn_of _ (by decide +kernel)) ggL_law_X11_addStep
set_option maxRecDepth 20000 in
theorem ggL_law_X12_addStep : GoodIn wsL_law wsX12_addStep := goodIn_r _ [290, 291, 151, 152, 153, 292, 293, 294, 5, 295, 276, 221, 222, 223, 218, 219, 220, 1041, 1042, 1043, 1044, 1045, 1046, 1047, 1048, 1049, 1050, 1051, 1052, 1053, 1054, 1055, 1056, 1057, 1058, 1059, 1060, 1061, 1062, 1063, 1064, 1065, 1066, 1067, 1068, 1069, 1070, 1071, 1072, 1073, 1074, 1075, 1076, 1077, 1078, 1079, 1080, 1081, 1082, 1083, 1084, 1085, 1086, 1087, 1088, 1089, 1090, 1091, 1092] (by decide +kernel) (by decide +kernel)
set_option maxRecDepth 20000 in
theorem gL_law_X12_addStep : GoodIn wsL_law (wsV RL 39 RX12 yX12_addStep wsX12_addStep) := goodIn_app (goodIn_of _ (by decide +kernel)) ggL_law_X12_addStep
set_option maxRecDepth 20000 in
theorem ggL_law_X11_removeStep : GoodIn wsL_law wsX11_removeStep := goodIn_r _ [299, 20, 300, 19, 301, 302, 70, 303, 304, 305, 71, 72, 73, 1025, 1026, 1027, 1028, 1029, 1030, 1031, 1032, 1033, 1034, 1035, 1036, 1037, 1038, 1039, 1040, 1095, 1096, 1097, 1098, 1099, 1100] (by decide +kernel) (by decide +kernel)
set_option maxRecDepth 20000 in
theorem gL_law_X11_removeStep : GoodIn wsL_law (wsV RL 40 RX11 yX11_removeStep wsX11_removeStep) := goodIn_app (goodIn_of _ (by decide +kernel)) ggL_law_X11_removeStep
set_option maxRecDepth 20000 in
theorem ggL_law_X12_removeStep : GoodIn wsL_law wsX12_removeStep := goodIn_r _ [309, 291, 151, 152, 153, 310, 311, 312, 5, 313, 221, 222, 223, 1041, 1042, 1043, 1044, 1045, 1046, 1047, 1048, 1049, 1050, 1051, 1052, 1053, 1054, 1055, 1056, 1057, 1058, 1059, 1060, 1061, 1062, 1063, 1064, 1065, 1066, 1067, 1068, 1069, 1070, 1071, 1072, 1073, 1074, 1075, 1076, 1077, 1078, 1079, 1080, 1081, 1082, 1083, 1084, 1085, 1086, 1087, 1088, 1089, 1090, 1091, 1092] (by decide +kernel) (by decide +kernel)
set_option maxRecDepth 20000 in
theorem gL_law_X12_removeStep : GoodIn wsL_law (wsV RL 44 RX12 yX12_removeStep wsX12_removeStep) := goodIn_app (goodIn_of _ (by decide +kernel)) ggL_law_X12_removeStep
set_option maxRecDepth 20000 in
theorem ggL_law_X11_setLabel : GoodIn wsL_law wsX11_setLabel := goodIn_r _ [317, 20, 300, 19, 301, 302, 70, 192, 193, 2, 194, 1025, 1026, 1027, 1028, 1029, 1030, 1031, 1032, 1033, 1034, 1035, 1036, 1037, 1038, 1039, 1040, 1095, 1096, 1097, 1098, 1099, 1100] (by decide +kernel) (by decide +kernel)
set_option maxRecDepth 20000 in
theorem gL_law_X11_setLabel : GoodIn wsL_law (wsV RL 45 RX11 yX11_setLabel wsX11_setLabel) := goodIn_app (goodIn_of _ (by decide +kernel)) ggL_law_X11_setLabel
set_option maxRecDepth 20000 in
theorem ggL_law_X12_setLabel : GoodIn wsL_law wsX12_setLabel := goodIn_r _ [321, 153, 310, 311, 312, 5, 313, 291, 221, 222, 223, 218, 219, 220, 1041, 1042, 1043, 1044, 1045, 1046, 1047, 1048, 1049, 1050, 1051, 1052, 1053, 1054, 1055, 1056, 1057, 1058, 1059, 1060, 1061, 1062, 1063, 1064, 1065, 1066, 1067, 1068, 1069, 1070, 1071, 1072, 1073, 1074, 1075, 1076, 1077, 1078, 1079, 1080, 1081, 1082, 1083, 1084, 1085, 1086, 1087, 1088, 1089, 1090, 1091, 1092] (by decide +kernel) (by decide +kernel)
set_option maxRecDepth 20000 in
theorem gL_law_X12_setLabel : GoodIn wsL_law (wsV RL 48 RX12 yX12_setLabel wsX12_setLabel) := goodIn_app (goodIn_of _ (by decide +kernel)) ggL_law_X12_setLabel
set_option maxRecDepth 20000 in
theorem ggL_law_X11_clearSystem : GoodIn wsL_law wsX11_clearSystem := goodIn_r _ [325, 20, 326, 19, 327, 328, 68, 70, 1025, 1026, 1027, 1028, 1029, 1030, 1031, 1032, 1033, 1034, 1035, 1036, 1037, 1038, 1039, 1040, 1095, 1096, 1097, 1098, 1099, 1100] (by decide +kernel) (by decide +kernel)
set_option maxRecDepth 20000 in
theorem gL_law_X11_clearSystem : GoodIn wsL_law (wsV RL 49 RX11 yX11_clearSystem wsX11_clearSystem) := goodIn_app (goodIn_of _ (by decide +kernel)) ggL_law_X11_clearSystem
set_option maxRecDepth 20000 in
theorem ggL_law_X12_clearSystem : GoodIn wsL_law wsX12_clearSystem := goodIn_r _ [332, 276, 291, 1041, 1042, 1043, 1044, 1045, 1046, 1047, 1048, 1049, 1050, 1051, 1052, 1053, 1054, 1055, 1056, 1057, 1058, 1059, 1060, 1061, 1062, 1063, 1064, 1065, 1066, 1067, 1068, 1069, 1070, 1071, 1072, 1073, 1074, 1075, 1076, 1077, 1078, 1079, 1080, 1081, 1082, 1083, 1084, 1085, 1086, 1087, 1088, 1089, 1090, 1091, 1092] (by decide +kernel) (by decide +kernel)
set_option maxRecDepth 20000 in
theorem gL_law_X12_clearSystem : GoodIn wsL_law (wsV RL 52 RX12 yX12_clearSystem wsX12_clearSystem) := goodIn_app (goodIn_of _ (by decide +kernel)) ggL_law_X12_clearSystem
set_option maxRecDepth 20000 in
theorem ggL_law_X11_objectCount : GoodIn wsL_law wsX11_objectCount := goodIn_r _ [336, 20, 1025, 1026, 1027, 1028, 1029, 1030, 1031, 1032, 1033, 1034, 1035, 1036, 1037, 1038, 1039, 1040, 1095, 1096, 1097, 1098, 1099, 1100] (by decide +kernel) (by decide +kernel)
set_option maxRecDepth 20000 in
theorem gL_law_X11_objectCount : GoodIn wsL_law (wsV RL 53 RX11 yX11_objectCount wsX11_objectCount) := goodIn_app (goodIn_of _ (by decide +kernel)) ggL_law_X11_objectCount
set_option maxRecDepth 20000 in
theorem ggL_law_X12_objectCount : GoodIn wsL_law wsX12_objectCount := goodIn_r _ [340, 276, 1041, 1042, 1043, 1044, 1045, 1046, 1047, 1048, 1049, 1050, 1051, 1052, 1053, 1054, 1055, 1056, 1057, 1058, 1059, 1060, 1061, 1062, 1063, 1064, 1065, 1066, 1067, 1068, 1069, 1070, 1071, 1072, 1073, 1074, 1075, 1076, 1077, 1078, 1079, 1080, 1081, 1082, 1083, 1084, 1085, 1086, 1087, 1088, 1089, 1090, 1091, 1092] (by decide +kernel) (by decide +kernel)
set_option maxRecDepth 20000 in
theorem gL_law_X12_objectCount : GoodIn wsL_law (wsV RL 56 RX12 yX12_objectCount wsX12_objectCount) := goodIn_app (goodIn_of _ (by decide +kernel)) ggL_law_X12_objectCount
set_option maxRecDepth 20000 in
theorem ggL_law_X11_stepCount : GoodIn wsL_law wsX11_stepCount := goodIn_r _ [344, 20, 1025, 1026, 1027, 1028, 1029, 1030, 1031, 1032, 1033, 1034, 1035, 1036, 1037, 1038, 1039, 1040, 1095, 1096, 1097, 1098, 1099, 1100] (by decide +kernel) (by decide +kernel)
set_option maxRecDepth 20000 in
theorem gL_law_X11_stepCount : GoodIn wsL_law (wsV RL 57 RX11 yX11_stepCount wsX11_stepCount) := goodIn_app (goodIn_of _ (by decide +kernel)) ggL_law_X11_stepCount
set_option maxRecDepth 20000 in
theorem ggL_law_X12_stepCount : GoodIn wsL_law wsX12_stepCount := goodIn_r _ [348, 291, 1041, 1042, 1043, 1044, 1045, 1046, 1047, 1048, 1049, 1050, 1051, 1052, 1053, 1054, 1055, 1056, 1057, 1058, 1059, 1060, 1061, 1062, 1063, 1064, 1065, 1066, 1067, 1068, 1069, 1070, 1071, 1072, 1073, 1074, 1075, 1076, 1077, 1078, 1079, 1080, 1081, 1082, 1083, 1084, 1085, 1086, 1087, 1088, 1089, 1090, 1091, 1092] (by decide +kernel) (by decide +kernel)
set_option maxRecDepth 20000 in
theorem gL_law_X12_stepCount : GoodIn wsL_law (wsV RL 60 RX12 yX12_stepCount wsX12_stepCount) := goodIn_app (goodIn_of _ (by decide +kernel)) ggL_law_X12_stepCount
set_option maxRecDepth 20000 in
theorem ggL_law_X11_source : GoodIn wsL_law wsX11_source := goodIn_r _ [352, 20, 300, 19, 301, 302, 70, 1025, 1026, 1027, 1028, 1029, 1030, 1031, 1032, 1033, 1034, 1035, 1036, 1037, 1038, 1039, 1040, 1095, 1096, 1097, 1098, 1099, 1100] (by decide +kernel) (by decide +kernel)
set_option maxRecDepth 20000 in
theorem gL_law_X11_source : GoodIn wsL_law (wsV RL 61 RX11 yX11_source wsX11_source) := goodIn_app (goodIn_of _ (by decide +kernel)) ggL_law_X11_source
set_option maxRecDepth 20000 in
theorem ggL_law_X12_source : GoodIn wsL_law wsX12_source := goodIn_r _ [356, 151, 310, 311, 312, 5, 313, 291, 221, 222, 223, 1041, 1042, 1043, 1044, 1045, 1046, 1047, 1048, 1049, 1050, 1051, 1052, 1053, 1054, 1055, 1056, 1057, 1058, 1059, 1060, 1061, 1062, 1063, 1064, 1065, 1066, 1067, 1068, 1069, 1070, 1071, 1072, 1073, 1074, 1075, 1076, 1077, 1078, 1079, 1080, 1081, 1082, 1083, 1084, 1085, 1086, 1087, 1088, 1089, 1090, 1091, 1092] (by decide +kernel) (by decide +kernel)
set_option maxRecDepth 20000 in
theorem gL_law_X12_source : GoodIn wsL_law (wsV RL 64 RX12 yX12_source wsX12_source) := goodIn_app (goodIn_of _ (by decide +kernel)) ggL_law_X12_source
set_option maxRecDepth 20000 in
theorem ggL_law_X11_target : GoodIn wsL_law wsX11_target := goodIn_r _ [360, 20, 300, 19, 301, 302, 70, 1025, 1026, 1027, 1028, 1029, 1030, 1031, 1032, 1033, 1034, 1035, 1036, 1037, 1038, 1039, 1040, 1095, 1096, 1097, 1098, 1099, 1100] (by decide +kernel) (by decide +kernel)
set_option maxRecDepth 20000 in
theorem gL_law_X11_target : GoodIn wsL_law (wsV RL 65 RX11 yX11_target wsX11_target) := goodIn_app (goodIn_of _ (by decide +kernel)) ggL_law_X11_target
set_option maxRecDepth 20000 in
theorem ggL_law_X12_target : GoodIn wsL_law wsX12_target := goodIn_r _ [364, 152, 310, 311, 312, 5, 313, 291, 221, 222, 223, 1041, 1042, 1043, 1044, 1045, 1046, 1047, 1048, 1049, 1050, 1051, 1052, 1053, 1054, 1055, 1056, 1057, 1058, 1059, 1060, 1061, 1062, 1063, 1064, 1065, 1066, 1067, 1068, 1069, 1070, 1071, 1072, 1073, 1074, 1075, 1076, 1077, 1078, 1079, 1080, 1081, 1082, 1083, 1084, 1085, 1086, 1087, 1088, 1089, 1090, 1091, 1092] (by decide +kernel) (by decide +kernel)
set_option maxRecDepth 20000 in
theorem gL_law_X12_target : GoodIn wsL_law (wsV RL 68 RX12 yX12_target wsX12_target) := goodIn_app (goodIn_of _ (by decide +kernel)) ggL_law_X12_target
set_option maxRecDepth 20000 in
theorem ggL_law_X11_label : GoodIn wsL_law wsX11_label := goodIn_r _ [368, 20, 300, 19, 301, 302, 70, 1025, 1026, 1027, 1028, 1029, 1030, 1031, 1032, 1033, 1034, 1035, 1036, 1037, 1038, 1039, 1040, 1095, 1096, 1097, 1098, 1099, 1100] (by decide +kernel) (by decide +kernel)
set_option maxRecDepth 20000 in
theorem gL_law_X11_label : GoodIn wsL_law (wsV RL 69 RX11 yX11_label wsX11_label) := goodIn_app (goodIn_of _ (by decide +kernel)) ggL_law_X11_label
set_option maxRecDepth 20000 in
theorem ggL_law_X12_label : GoodIn wsL_law wsX12_label := goodIn_r _ [372, 153, 310, 311, 312, 5, 313, 291, 221, 222, 223, 1041, 1042, 1043, 1044, 1045, 1046, 1047, 1048, 1049, 1050, 1051, 1052, 1053, 1054, 1055, 1056, 1057, 1058, 1059, 1060, 1061, 1062, 1063, 1064, 1065, 1066, 1067, 1068, 1069, 1070, 1071, 1072, 1073, 1074, 1075, 1076, 1077, 1078, 1079, 1080, 1081, 1082, 1083, 1084, 1085, 1086, 1087, 1088, 1089, 1090, 1091, 1092] (by decide +kernel) (by decide +kernel)
set_option maxRecDepth 20000 in
theorem gL_law_X12_label : GoodIn wsL_law (wsV RL 72 RX12 yX12_label wsX12_label) := goodIn_app (goodIn_of _ (by decide +kernel)) ggL_law_X12_label
set_option maxRecDepth 20000 in
theorem ggL_law_X11_distance : GoodIn wsL_law wsX11_distance := goodIn_r _ [376, 20, 281, 19, 282, 283, 68, 377, 198, 2, 199, 378, 379, 380, 70, 71, 73, 72, 1025, 1026, 1027, 1028, 1029, 1030, 1031, 1032, 1033, 1034, 1035, 1036, 1037, 1038, 1039, 1040, 1095, 1096, 1097, 1098, 1099, 1100] (by decide +kernel) (by decide +kernel)
set_option maxRecDepth 20000 in
theorem gL_law_X11_distance : GoodIn wsL_law (wsV RL 73 RX11 yX11_distance wsX11_distance) := goodIn_app (goodIn_of _ (by decide +kernel)) ggL_law_X11_distance
set_option maxRecDepth 20000 in
theorem ggL_law_X12_distance : GoodIn wsL_law wsX12_distance := goodIn_r _ [384, 157, 292, 293, 294, 5, 295, 276, 221, 222, 223, 385, 386, 387, 388, 291, 151, 152, 1041, 1042, 1043, 1044, 1045, 1046, 1047, 1048, 1049, 1050, 1051, 1052, 1053, 1054, 1055, 1056, 1057, 1058, 1059, 1060, 1061, 1062, 1063, 1064, 1065, 1066, 1067, 1068, 1069, 1070, 1071, 1072, 1073, 1074, 1075, 1076, 1077, 1078, 1079, 1080, 1081, 1082, 1083, 1084, 1085, 1086, 1087, 1088, 1089, 1090, 1091, 1092] (by decide +kernel) (by decide +kernel)
set_option maxRecDepth 20000 in
theorem gL_law_X12_distance : GoodIn wsL_law (wsV RL 76 RX12 yX12_distance wsX12_distance) := goodIn_app (goodIn_of _ (by decide +kernel)) ggL_law_X12_distance
set_option maxRecDepth 20000 in
theorem ggL_law_X11_reachable : GoodIn wsL_law wsX11_reachable := goodIn_r _ [392, 20, 281, 19, 282, 283, 68, 393, 394, 395, 396, 378, 379, 380, 70, 71, 73, 72, 1025, 1026, 1027, 1028, 1029, 1030, 1031, 1032, 1033, 1034, 1035, 1036, 1037, 1038, 1039, 1040, 1095, 1096, 1097, 1098, 1099, 1100] (by decide +kernel) (by decide +kernel)
set_option maxRecDepth 20000 in
theorem gL_law_X11_reachable : GoodIn wsL_law (wsV RL 77 RX11 yX11_reachable wsX11_reachable) := goodIn_app (goodIn_of _ (by decide +kernel)) ggL_law_X11_reachable
set_option maxRecDepth 20000 in
theorem ggL_law_X12_reachable : GoodIn wsL_law wsX12_reachable := goodIn_r _ [400, 292, 293, 294, 5, 295, 276, 221, 222, 223, 385, 386, 387, 388, 157, 291, 151, 152, 401, 402, 403, 404, 1041, 1042, 1043, 1044, 1045, 1046, 1047, 1048, 1049, 1050, 1051, 1052, 1053, 1054, 1055, 1056, 1057, 1058, 1059, 1060, 1061, 1062, 1063, 1064, 1065, 1066, 1067, 1068, 1069, 1070, 1071, 1072, 1073, 1074, 1075, 1076, 1077, 1078, 1079, 1080, 1081, 1082, 1083, 1084, 1085, 1086, 1087, 1088, 1089, 1090, 1091, 1092] (by decide +kernel) (by decide +kernel)
set_option maxRecDepth 20000 in
theorem gL_law_X12_reachable : GoodIn wsL_law (wsV RL 80 RX12 yX12_reachable wsX12_reachable) := goodIn_app (goodIn_of _ (by decide +kernel)) ggL_law_X12_reachable
set_option maxRecDepth 20000 in
theorem ggL_law_X11_normalForm : GoodIn wsL_law wsX11_normalForm := goodIn_r _ [408, 20, 281, 19, 282, 283, 68, 393, 394, 395, 396, 378, 379, 380, 70, 71, 73, 72, 409, 410, 411, 412, 255, 256, 257, 258, 259, 260, 413, 414, 2, 415, 1025, 1026, 1027, 1028, 1029, 1030, 1031, 1032, 1033, 1034, 1035, 1036, 1037, 1038, 1039, 1040, 1095, 1096, 1097, 1098, 1099, 1100] (by decide +kernel) (by decide +kernel)
set_option maxRecDepth 20000 in
theorem gL_law_X11_normalForm : GoodIn wsL_law (wsV RL 81 RX11 yX11_normalForm wsX11_normalForm) := goodIn_app (goodIn_of _ (by decide +kernel)) ggL_law_X11_normalForm
set_option maxRecDepth 20000 in
theorem ggL_law_X12_normalForm : GoodIn wsL_law wsX12_normalForm := goodIn_r _ [419, 276, 157, 292, 293, 294, 5, 295, 221, 222, 223, 385, 386, 387, 388, 291, 151, 152, 420, 421, 422, 423, 1041, 1042, 1043, 1044, 1045, 1046, 1047, 1048, 1049, 1050, 1051, 1052, 1053, 1054, 1055, 1056, 1057, 1058, 1059, 1060, 1061, 1062, 1063, 1064, 1065, 1066, 1067, 1068, 1069, 1070, 1071, 1072, 1073, 1074, 1075, 1076, 1077, 1078, 1079, 1080, 1081, 1082, 1083, 1084, 1085, 1086, 1087, 1088, 1089, 1090, 1091, 1092] (by decide +kernel) (by decide +kernel)
set_option maxRecDepth 20000 in
theorem gL_law_X12_normalForm : GoodIn wsL_law (wsV RL 84 RX12 yX12_normalForm wsX12_normalForm) := goodIn_app (goodIn_of _ (by decide +kernel)) ggL_law_X12_normalForm
set_option maxRecDepth 20000 in
theorem ggL_law_X11_component : GoodIn wsL_law wsX11_component := goodIn_r _ [427, 20, 281, 19, 282, 283, 68, 428, 429, 430, 70, 71, 72, 198, 2, 199, 413, 414, 415, 412, 255, 256, 257, 258, 259, 260, 1025, 1026, 1027, 1028, 1029, 1030, 1031, 1032, 1033, 1034, 1035, 1036, 1037, 1038, 1039, 1040, 1095, 1096, 1097, 1098, 1099, 1100] (by decide +kernel) (by decide +kernel)
set_option maxRecDepth 20000 in
theorem gL_law_X11_component : GoodIn wsL_law (wsV RL 85 RX11 yX11_component wsX11_component) := goodIn_app (goodIn_of _ (by decide +kernel)) ggL_law_X11_component
set_option maxRecDepth 20000 in
theorem ggL_law_X12_component : GoodIn wsL_law wsX12_component := goodIn_r _ [434, 276, 291, 151, 152, 292, 293, 294, 5, 295, 221, 222, 223, 1041, 1042, 1043, 1044, 1045, 1046, 1047, 1048, 1049, 1050, 1051, 1052, 1053, 1054, 1055, 1056, 1057, 1058, 1059, 1060, 1061, 1062, 1063, 1064, 1065, 1066, 1067, 1068, 1069, 1070, 1071, 1072, 1073, 1074, 1075, 1076, 1077, 1078, 1079, 1080, 1081, 1082, 1083, 1084, 1085, 1086, 1087, 1088, 1089, 1090, 1091, 1092] (by decide +kernel) (by decide +kernel)
set_option maxRecDepth 20000 in
theorem gL_law_X12_component : GoodIn wsL_law (wsV RL 88 RX12 yX12_component wsX12_component) := goodIn_app (goodIn_of _ (by decide +kernel)) ggL_law_X12_component
set_option maxRecDepth 20000 in
theorem ggL_law_X11_isTerminating : GoodIn wsL_law wsX11_isTerminating := goodIn_r _ [438, 20, 439, 19, 440, 441, 68, 396, 378, 379, 380, 70, 71, 73, 72, 1025, 1026, 1027, 1028, 1029, 1030, 1031, 1032, 1033, 1034, 1035, 1036, 1037, 1038, 1039, 1040, 1095, 1096, 1097, 1098, 1099, 1100] (by decide +kernel) (by decide +kernel)
set_option maxRecDepth 20000 in
theorem gL_law_X11_isTerminating : GoodIn wsL_law (wsV RL 89 RX11 yX11_isTerminating wsX11_isTerminating) := goodIn_app (goodIn_of _ (by decide +kernel)) ggL_law_X11_isTerminating
set_option maxRecDepth 20000 in
theorem ggL_law_X12_isTerminating : GoodIn wsL_law wsX12_isTerminating := goodIn_r _ [445, 276, 385, 386, 387, 5, 388, 157, 291, 151, 152, 446, 447, 448, 449, 1041, 1042, 1043, 1044, 1045, 1046, 1047, 1048, 1049, 1050, 1051, 1052, 1053, 1054, 1055, 1056, 1057, 1058, 1059, 1060, 1061, 1062, 1063, 1064, 1065, 1066, 1067, 1068, 1069, 1070, 1071, 1072, 1073, 1074, 1075, 1076, 1077, 1078, 1079, 1080, 1081, 1082, 1083, 1084, 1085, 1086, 1087, 1088, 1089, 1090, 1091, 1092] (by decide +kernel) (by decide +kernel)
set_option maxRecDepth 20000 in
theorem gL_law_X12_isTerminating : GoodIn wsL_law (wsV RL 92 RX12 yX12_isTerminating wsX12_isTerminating) := goodIn_app (goodIn_of _ (by decide +kernel)) ggL_law_X12_isTerminating
set_option maxRecDepth 20000 in
theorem ggL_law_X11_longestPath : GoodIn wsL_law wsX11_longestPath := goodIn_r _ [453, 20, 281, 19, 282, 283, 68, 439, 440, 441, 396, 378, 379, 380, 70, 71, 73, 72, 1025, 1026, 1027, 1028, 1029, 1030, 1031, 1032, 1033, 1034, 1035, 1036, 1037, 1038, 1039, 1040, 1095, 1096, 1097, 1098, 1099, 1100] (by decide +kernel) (by decide +kernel)
set_option maxRecDepth 20000 in
theorem gL_law_X11_longestPath : GoodIn wsL_law (wsV RL 93 RX11 yX11_longestPath wsX11_longestPath) := goodIn_app (goodIn_of _ (by decide +kernel)) ggL_law_X11_longestPath
set_option maxRecDepth 20000 in
theorem ggL_law_X12_longestPath : GoodIn wsL_law wsX12_longestPath := goodIn_r _ [457, 276, 157, 158, 291, 151, 152, 292, 293, 294, 5, 295, 221, 222, 223, 385, 386, 387, 388, 446, 447, 448, 449, 1041, 1042, 1043, 1044, 1045, 1046, 1047, 1048, 1049, 1050, 1051, 1052, 1053, 1054, 1055, 1056, 1057, 1058, 1059, 1060, 1061, 1062, 1063, 1064, 1065, 1066, 1067, 1068, 1069, 1070, 1071, 1072, 1073, 1074, 1075, 1076, 1077, 1078, 1079, 1080, 1081, 1082, 1083, 1084, 1085, 1086, 1087, 1088, 1089, 1090, 1091, 1092] (by decide +kernel) (by decide +kernel)
set_option maxRecDepth 20000 in
theorem gL_law_X12_longestPath : GoodIn wsL_law (wsV RL 96 RX12 yX12_longestPath wsX12_longestPath) := goodIn_app (goodIn_of _ (by decide +kernel)) ggL_law_X12_longestPath
set_option maxRecDepth 20000 in
theorem ggL_law_X11_isConfluent : GoodIn wsL_law wsX11_isConfluent := goodIn_r _ [461, 462, 463, 464, 2, 465, 20, 59, 466, 19, 467, 468, 68, 469, 393, 394, 395, 396, 378, 379, 380, 70, 71, 73, 72, 470, 471, 472, 473, 377, 198, 199, 1025, 1026, 1027, 1028, 1029, 1030, 1031, 1032, 1033, 1034, 1035, 1036, 1037, 1038, 1039, 1040, 1095, 1096, 1097, 1098, 1099, 1100] (by decide +kernel) (by decide +kernel)
set_option maxRecDepth 20000 in
theorem gL_law_X11_isConfluent : GoodIn wsL_law (wsV RL 97 RX11 yX11_isConfluent wsX11_isConfluent) := goodIn_app (goodIn_of _ (by decide +kernel)) ggL_law_X11_isConfluent
set_option maxRecDepth 20000 in
theorem ggL_law_X12_isConfluent : GoodIn wsL_law wsX12_isConfluent := goodIn_r _ [477, 478, 479, 480, 5, 481, 276, 157, 385, 386, 387, 388, 291, 151, 152, 482, 483, 484, 485, 401, 402, 403, 404, 1041, 1042, 1043, 1044, 1045, 1046, 1047, 1048, 1049, 1050, 1051, 1052, 1053, 1054, 1055, 1056, 1057, 1058, 1059, 1060, 1061, 1062, 1063, 1064, 1065, 1066, 1067, 1068, 1069, 1070, 1071, 1072, 1073, 1074, 1075, 1076, 1077, 1078, 1079, 1080, 1081, 1082, 1083, 1084, 1085, 1086, 1087, 1088, 1089, 1090, 1091, 1092] (by decide +kernel) (by decide +kernel)
set_option maxRecDepth 20000 in
theorem gL_law_X12_isConfluent : GoodIn wsL_law (wsV RL 100 RX12 yX12_isConfluent wsX12_isConfluent) := goodIn_app (goodIn_of _ (by decide +kernel)) ggL_law_X12_isConfluent
set_option maxRecDepth 20000 in
theorem ggL_law_X11_counterexample : GoodIn wsL_law wsX11_counterexample := goodIn_r _ [489, 462, 463, 464, 2, 465, 20, 59, 466, 19, 467, 468, 68, 469, 393, 394, 395, 396, 378, 379, 380, 70, 71, 73, 72, 470, 471, 472, 473, 377, 198, 199, 1025, 1026, 1027, 1028, 1029, 1030, 1031, 1032, 1033, 1034, 1035, 1036, 1037, 1038, 1039, 1040, 1095, 1096, 1097, 1098, 1099, 1100] (by decide +kernel) (by decide +kernel)
set_option maxRecDepth 20000 in
theorem gL_law_X11_counterexample : GoodIn wsL_law (wsV RL 101 RX11 yX11_counterexample wsX11_counterexample) := goodIn_app (goodIn_of _ (by decide +kernel)) ggL_law_X11_counterexample
set_option maxRecDepth 20000 in
theorem ggL_law_X12_counterexample : GoodIn wsL_law wsX12_counterexample := goodIn_r _ [481, 276, 157, 385, 386, 387, 5, 388, 291, 151, 152, 482, 483, 484, 485, 401, 402, 403, 404, 1041, 1042, 1043, 1044, 1045, 1046, 1047, 1048, 1049, 1050, 1051, 1052, 1053, 1054, 1055, 1056, 1057, 1058, 1059, 1060, 1061, 1062, 1063, 1064, 1065, 1066, 1067, 1068, 1069, 1070, 1071, 1072, 1073, 1074, 1075, 1076, 1077, 1078, 1079, 1080, 1081, 1082, 1083, 1084, 1085, 1086, 1087, 1088, 1089, 1090, 1091, 1092] (by decide +kernel) (by decide +kernel)
set_option maxRecDepth 20000 in
theorem gL_law_X12_counterexample : GoodIn wsL_law (wsV RL 104 RX12 yX12_counterexample wsX12_counterexample) := goodIn_app (goodIn_of _ (by decide +kernel)) ggL_law_X12_counterexample
set_option maxRecDepth 20000 in
theorem ggL_law_X11_isLocallyConfluent : GoodIn wsL_law wsX11_isLocallyConfluent := goodIn_r _ [494, 20, 59, 32, 466, 19, 467, 468, 68, 469, 393, 394, 395, 396, 378, 379, 380, 70, 71, 73, 72, 495, 31, 496, 497, 83, 84, 85, 1025, 1026, 1027, 1028, 1029, 1030, 1031, 1032, 1033, 1034, 1035, 1036, 1037, 1038, 1039, 1040, 1104, 1105, 1106, 1095, 1096, 1097, 1098, 1099, 1100] (by decide +kernel) (by decide +kernel)
set_option maxRecDepth 20000 in
theorem gL_law_X11_isLocallyConfluent : GoodIn wsL_law (wsV RL 105 RX11 yX11_isLocallyConfluent wsX11_isLocallyConfluent) := goodIn_app (goodIn_of _ (by decide +kernel)) ggL_law_X11_isLocallyConfluent
set_option maxRecDepth 20000 in
theorem ggL_law_X12_isLocallyConfluent : GoodIn wsL_law wsX12_isLocallyConfluent := goodIn_r _ [501, 291, 151, 152, 385, 386, 387, 5, 388, 276, 157, 482, 483, 484, 485, 401, 402, 403, 404, 1041, 1042, 1043, 1044, 1045, 1046, 1047, 1048, 1049, 1050, 1051, 1052, 1053, 1054, 1055, 1056, 1057, 1058, 1059, 1060, 1061, 1062, 1063, 1064, 1065, 1066, 1067, 1068, 1069, 1070, 1071, 1072, 1073, 1074, 1075, 1076, 1077, 1078, 1079, 1080, 1081, 1082, 1083, 1084, 1085, 1086, 1087, 1088, 1089, 1090, 1091, 1092] (by decide +kernel) (by decide +kernel)
set_option maxRecDepth 20000 in
theorem gL_law_X12_isLocallyConfluent : GoodIn wsL_law (wsV RL 108 RX12 yX12_isLocallyConfluent wsX12_isLocallyConfluent) := goodIn_app (goodIn_of _ (by decide +kernel)) ggL_law_X12_isLocallyConfluent
set_option maxRecDepth 20000 in
theorem ggL_law_X11_peakCount : GoodIn wsL_law wsX11_peakCount := goodIn_r _ [505, 32, 20, 495, 31, 496, 497, 83, 84, 85, 1025, 1026, 1027, 1028, 1029, 1030, 1031, 1032, 1033, 1034, 1035, 1036, 1037, 1038, 1039, 1040, 1104, 1105, 1106, 1095, 1096, 1097, 1098, 1099, 1100] (by decide +kernel) (by decide +kernel)
set_option maxRecDepth 20000 in
theorem gL_law_X11_peakCount : GoodIn wsL_law (wsV RL 109 RX11 yX11_peakCount wsX11_peakCount) := goodIn_app (goodIn_of _ (by decide +kernel)) ggL_law_X11_peakCount
set_option maxRecDepth 20000 in
theorem ggL_law_X12_peakCount : GoodIn wsL_law wsX12_peakCount := goodIn_r _ [509, 510, 511, 512, 5, 513, 291, 151, 514, 515, 1041, 1042, 1043, 1044, 1045, 1046, 1047, 1048, 1049, 1050, 1051, 1052, 1053, 1054, 1055, 1056, 1057, 1058, 1059, 1060, 1061, 1062, 1063, 1064, 1065, 1066, 1067, 1068, 1069, 1070, 1071, 1072, 1073, 1074, 1075, 1076, 1077, 1078, 1079, 1080, 1081, 1082, 1083, 1084, 1085, 1086, 1087, 1088, 1089, 1090, 1091, 1092] (by decide +kernel) (by decide +kernel)
set_option maxRecDepth 20000 in
theorem gL_law_X12_peakCount : GoodIn wsL_law (wsV RL 112 RX12 yX12_peakCount wsX12_peakCount) := goodIn_app (goodIn_of _ (by decide +kernel)) ggL_law_X12_peakCount
set_option maxRecDepth 20000 in
theorem ggL_law_X11_peakStep : GoodIn wsL_law wsX11_peakStep := goodIn_r _ [519, 32, 20, 495, 31, 496, 497, 83, 84, 85, 520, 521, 522, 523, 524, 2, 525, 1025, 1026, 1027, 1028, 1029, 1030, 1031, 1032, 1033, 1034, 1035, 1036, 1037, 1038, 1039, 1040, 1104, 1105, 1106, 1095, 1096, 1097, 1098, 1099, 1100] (by decide +kernel) (by decide +kernel)
set_option maxRecDepth 20000 in
theorem gL_law_X11_peakStep : GoodIn wsL_law (wsV RL 113 RX11 yX11_peakStep wsX11_peakStep) := goodIn_app (goodIn_of _ (by decide +kernel)) ggL_law_X11_peakStep
set_option maxRecDepth 20000 in
theorem ggL_law_X12_peakStep : GoodIn wsL_law wsX12_peakStep := goodIn_r _ [529, 514, 515, 510, 511, 512, 5, 513, 291, 151, 530, 531, 532, 221, 222, 223, 1041, 1042, 1043, 1044, 1045, 1046, 1047, 1048, 1049, 1050, 1051, 1052, 1053, 1054, 1055, 1056, 1057, 1058, 1059, 1060, 1061, 1062, 1063, 1064, 1065, 1066, 1067, 1068, 1069, 1070, 1071, 1072, 1073, 1074, 1075, 1076, 1077, 1078, 1079, 1080, 1081, 1082, 1083, 1084, 1085, 1086, 1087, 1088, 1089, 1090, 1091, 1092] (by decide +kernel) (by decide +kernel)
set_option maxRecDepth 20000 in
theorem gL_law_X12_peakStep : GoodIn wsL_law (wsV RL 116 RX12 yX12_peakStep wsX12_peakStep) := goodIn_app (goodIn_of _ (by decide +kernel)) ggL_law_X12_peakStep
set_option maxRecDepth 20000 in
theorem ggL_law_X11_isDecreasing : GoodIn wsL_law wsX11_isDecreasing := goodIn_r _ [536, 32, 20, 16, 495, 31, 496, 497, 83, 84, 85, 520, 521, 522, 537, 538, 539, 540, 541, 542, 393, 19, 394, 395, 68, 396, 378, 379, 380, 70, 71, 73, 72, 1025, 1026, 1027, 1028, 1029, 1030, 1031, 1032, 1033, 1034, 1035, 1036, 1037, 1038, 1039, 1040, 1104, 1105, 1106, 1095, 1096, 1097, 1098, 1099, 1100, 1093, 1094] (by decide +kernel) (by decide +kernel)
set_option maxRecDepth 20000 in
theorem gL_law_X11_isDecreasing : GoodIn wsL_law (wsV RL 117 RX11 yX11_isDecreasing wsX11_isDecreasing) := goodIn_app (goodIn_of _ (by decide +kernel)) ggL_law_X11_isDecreasing
set_option maxRecDepth 20000 in
theorem ggL_law_X12_isDecreasing : GoodIn wsL_law wsX12_isDecreasing := goodIn_r _ [546, 510, 511, 512, 5, 513, 291, 151, 514, 515, 547, 548, 549, 550, 276, 551, 552, 553, 554, 153, 159, 152, 555, 556, 557, 558, 559, 560, 561, 562, 150, 563, 564, 565, 566, 1041, 1042, 1043, 1044, 1045, 1046, 1047, 1048, 1049, 1050, 1051, 1052, 1053, 1054, 1055, 1056, 1057, 1058, 1059, 1060, 1061, 1062, 1063, 1064, 1065, 1066, 1067, 1068, 1069, 1070, 1071, 1072, 1073, 1074, 1075, 1076, 1077, 1078, 1079, 1080, 1081, 1082, 1083, 1084, 1085, 1086, 1087, 1088, 1089, 1090, 1091, 1092] (by decide +kernel) (by decide +kernel)
set_option maxRecDepth 20000 in
theorem gL_law_X12_isDecreasing : GoodIn wsL_law (wsV RL 120 RX12 yX12_isDecreasing wsX12_isDecreasing) := goodIn_app (goodIn_of _ (by decide +kernel)) ggL_law_X12_isDecreasing
set_option maxRecDepth 20000 in
theorem ggL_law_X11_valley : GoodIn wsL_law wsX11_valley := goodIn_r _ [570, 571, 572, 573, 2, 574, 32, 20, 36, 16, 37, 575, 495, 31, 496, 497, 83, 84, 85, 520, 521, 522, 576, 35, 577, 578, 91, 89, 90, 98, 92, 579, 140, 141, 142, 580, 581, 582, 583, 93, 94, 95, 96, 97, 584, 585, 586, 587, 588, 589, 590, 591, 592, 593, 594, 595, 198, 199, 596, 597, 598, 599, 600, 601, 602, 1025, 1026, 1027, 1028, 1029, 1030, 1031, 1032, 1033, 1034, 1035, 1036, 1037, 1038, 1039, 1040, 1104, 1105, 1106, 1095, 1096, 1097, 1098, 1099, 1100, 1107, 1108, 1109, 1110, 1111, 1112, 1113, 1114, 1115, 1116, 1093, 1094] (by decide +kernel) (by decide +kernel)
set_option maxRecDepth 20000 in
theorem gL_law_X11_valley : GoodIn wsL_law (wsV RL 121 RX11 yX11_valley wsX11_valley) := goodIn_app (goodIn_of _ (by decide +kernel)) ggL_law_X11_valley
set_option maxRecDepth 20000 in
theorem ggL_law_X12_valley : GoodIn wsL_law wsX12_valley := goodIn_r _ [606, 510, 511, 512, 5, 513, 291, 151, 514, 515, 547, 548, 549, 550, 276, 551, 552, 553, 554, 153, 159, 152, 555, 556, 557, 558, 559, 560, 561, 562, 150, 563, 564, 565, 566, 1041, 1042, 1043, 1044, 1045, 1046, 1047, 1048, 1049, 1050, 1051, 1052, 1053, 1054, 1055, 1056, 1057, 1058, 1059, 1060, 1061, 1062, 1063, 1064, 1065, 1066, 1067, 1068, 1069, 1070, 1071, 1072, 1073, 1074, 1075, 1076, 1077, 1078, 1079, 1080, 1081, 1082, 1083, 1084, 1085, 1086, 1087, 1088, 1089, 1090, 1091, 1092] (by decide +kernel) (by decide +kernel)
set_option maxRecDepth 20000 in
theorem gL_law_X12_valley : GoodIn wsL_law (wsV RL 124 RX12 yX12_valley wsX12_valley) := goodIn_app (goodIn_of _ (by decide +kernel)) ggL_law_X12_valley
set_option maxRecDepth 20000 in
theorem ggL_law_X11_joinLength : GoodIn wsL_law wsX11_joinLength := goodIn_r _ [610, 523, 524, 2, 525, 571, 572, 573, 574, 32, 20, 36, 16, 37, 575, 495, 31, 496, 497, 83, 84, 85, 520, 521, 522, 576, 35, 577, 578, 91, 89, 90, 98, 92, 579, 140, 141, 142, 580, 581, 582, 583, 93, 94, 95, 96, 97, 584, 585, 586, 587, 588, 589, 590, 591, 592, 593, 594, 595, 198, 199, 596, 597, 598, 599, 600, 601, 602, 611, 612, 613, 614, 1025, 1026, 1027, 1028, 1029, 1030, 1031, 1032, 1033, 1034, 1035, 1036, 1037, 1038, 1039, 1040, 1104, 1105, 1106, 1095, 1096, 1097, 1098, 1099, 1100, 1107, 1108, 1109, 1110, 1111, 1112, 1113, 1114, 1115, 1116, 1093, 1094] (by decide +kernel) (by decide +kernel)
set_option maxRecDepth 20000 in
theorem gL_law_X11_joinLength : GoodIn wsL_law (wsV RL 125 RX11 yX11_joinLength wsX11_joinLength) := goodIn_app (goodIn_of _ (by decide +kernel)) ggL_law_X11_joinLength
set_option maxRecDepth 20000 in
theorem ggL_law_X12_joinLength : GoodIn wsL_law wsX12_joinLength := goodIn_r _ [618, 510, 511, 512, 5, 513, 291, 151, 514, 515, 530, 531, 532, 221, 222, 223, 547, 548, 549, 550, 276, 551, 552, 553, 554, 153, 159, 152, 555, 556, 557, 558, 559, 560, 561, 562, 150, 563, 564, 565, 566, 1041, 1042, 1043, 1044, 1045, 1046, 1047, 1048, 1049, 1050, 1051, 1052, 1053, 1054, 1055, 1056, 1057, 1058, 1059, 1060, 1061, 1062, 1063, 1064, 1065, 1066, 1067, 1068, 1069, 1070, 1071, 1072, 1073, 1074, 1075, 1076, 1077, 1078, 1079, 1080, 1081, 1082, 1083, 1084, 1085, 1086, 1087, 1088, 1089, 1090, 1091, 1092] (by decide +kernel) (by decide +kernel)
set_option maxRecDepth 20000 in
theorem gL_law_X12_joinLength : GoodIn wsL_law (wsV RL 128 RX12 yX12_joinLength wsX12_joinLength) := goodIn_app (goodIn_of _ (by decide +kernel)) ggL_law_X12_joinLength
set_option maxRecDepth 20000 in
theorem ggL_law_X11_joinStep : GoodIn wsL_law wsX11_joinStep := goodIn_r _ [622, 523, 524, 2, 525, 571, 572, 573, 574, 32, 20, 36, 16, 37, 575, 495, 31, 496, 497, 83, 84, 85, 520, 521, 522, 576, 35, 577, 578, 91, 89, 90, 98, 92, 579, 140, 141, 142, 580, 581, 582, 583, 93, 94, 95, 96, 97, 584, 585, 586, 587, 588, 589, 590, 591, 592, 593, 594, 595, 198, 199, 596, 597, 598, 599, 600, 601, 602, 611, 612, 613, 614, 623, 624, 625, 626, 1025, 1026, 1027, 1028, 1029, 1030, 1031, 1032, 1033, 1034, 1035, 1036, 1037, 1038, 1039, 1040, 1104, 1105, 1106, 1095, 1096, 1097, 1098, 1099, 1100, 1107, 1108, 1109, 1110, 1111, 1112, 1113, 1114, 1115, 1116, 1093, 1094] (by decide +kernel) (by decide +kernel)
set_option maxRecDepth 20000 in
theorem gL_law_X11_joinStep : GoodIn wsL_law (wsV RL 129 RX11 yX11_joinStep wsX11_joinStep) := goodIn_app (goodIn_of _ (by decide +kernel)) ggL_law_X11_joinStep
set_option maxRecDepth 20000 in
theorem ggL_law_X12_joinStep : GoodIn wsL_law wsX12_joinStep := goodIn_r _ [630, 631, 161, 510, 511, 512, 5, 513, 291, 151, 514, 515, 530, 531, 532, 221, 222, 223, 547, 548, 549, 550, 276, 551, 552, 553, 554, 153, 159, 152, 555, 556, 557, 558, 559, 560, 561, 562, 150, 563, 564, 565, 566, 632, 633, 634, 635, 160, 636, 637, 638, 639, 1041, 1042, 1043, 1044, 1045, 1046, 1047, 1048, 1049, 1050, 1051, 1052, 1053, 1054, 1055, 1056, 1057, 1058, 1059, 1060, 1061, 1062, 1063, 1064, 1065, 1066, 1067, 1068, 1069, 1070, 1071, 1072, 1073, 1074, 1075, 1076, 1077, 1078, 1079, 1080, 1081, 1082, 1083, 1084, 1085, 1086, 1087, 1088, 1089, 1090, 1091, 1092] (by decide +kernel) (by decide +kernel)
set_option maxRecDepth 20000 in
theorem gL_law_X12_joinStep : GoodIn wsL_law (wsV RL 132 RX12 yX12_joinStep wsX12_joinStep) := goodIn_app (goodIn_of _ (by decide +kernel)) ggL_law_X12_joinStep
set_option maxRecDepth 20000 in
theorem ggL_law_X11_decreasingCount : GoodIn wsL_law wsX11_decreasingCount := goodIn_r _ [643, 32, 20, 16, 495, 31, 496, 497, 83, 84, 85, 537, 538, 539, 540, 541, 542, 393, 19, 394, 395, 68, 396, 378, 379, 380, 70, 71, 73, 72, 1025, 1026, 1027, 1028, 1029, 1030, 1031, 1032, 1033, 1034, 1035, 1036, 1037, 1038, 1039, 1040, 1104, 1105, 1106, 1095, 1096, 1097, 1098, 1099, 1100, 1093, 1094] (by decide +kernel) (by decide +kernel)
set_option maxRecDepth 20000 in
theorem gL_law_X11_decreasingCount : GoodIn wsL_law (wsV RL 133 RX11 yX11_decreasingCount wsX11_decreasingCount) := goodIn_app (goodIn_of _ (by decide +kernel)) ggL_law_X11_decreasingCount
set_option maxRecDepth 20000 in
theorem ggL_law_X12_decreasingCount : GoodIn wsL_law wsX12_decreasingCount := goodIn_r _ [647, 291, 151, 648, 649, 650, 5, 651, 514, 515, 547, 548, 549, 550, 276, 551, 552, 553, 554, 153, 159, 152, 555, 556, 557, 558, 559, 560, 561, 562, 150, 563, 564, 565, 566, 1041, 1042, 1043, 1044, 1045, 1046, 1047, 1048, 1049, 1050, 1051, 1052, 1053, 1054, 1055, 1056, 1057, 1058, 1059, 1060, 1061, 1062, 1063, 1064, 1065, 1066, 1067, 1068, 1069, 1070, 1071, 1072, 1073, 1074, 1075, 1076, 1077, 1078, 1079, 1080, 1081, 1082, 1083, 1084, 1085, 1086, 1087, 1088, 1089, 1090, 1091, 1092] (by decide +kernel) (by decide +kernel)
set_option maxRecDepth 20000 in
theorem gL_law_X12_decreasingCount : GoodIn wsL_law (wsV RL 136 RX12 yX12_decreasingCount wsX12_decreasingCount) := goodIn_app (goodIn_of _ (by decide +kernel)) ggL_law_X12_decreasingCount
set_option maxRecDepth 20000 in
theorem ggL_law_X11_firstFailure : GoodIn wsL_law wsX11_firstFailure := goodIn_r _ [655, 32, 20, 16, 495, 31, 496, 497, 83, 84, 85, 656, 657, 658, 659, 537, 538, 539, 540, 541, 542, 393, 19, 394, 395, 68, 396, 378, 379, 380, 70, 71, 73, 72, 1025, 1026, 1027, 1028, 1029, 1030, 1031, 1032, 1033, 1034, 1035, 1036, 1037, 1038, 1039, 1040, 1104, 1105, 1106, 1095, 1096, 1097, 1098, 1099, 1100, 1093, 1094] (by decide +kernel) (by decide +kernel)
set_option maxRecDepth 20000 in
theorem gL_law_X11_firstFailure : GoodIn wsL_law (wsV RL 137 RX11 yX11_firstFailure wsX11_firstFailure) := goodIn_app (goodIn_of _ (by decide +kernel)) ggL_law_X11_firstFailure
set_option maxRecDepth 20000 in
theorem ggL_law_X12_firstFailure : GoodIn wsL_law wsX12_firstFailure := goodIn_r _ [663, 291, 151, 648, 649, 650, 5, 651, 514, 515, 547, 548, 549, 550, 276, 551, 552, 553, 554, 153, 159, 152, 555, 556, 557, 558, 559, 560, 561, 562, 150, 563, 564, 565, 566, 1041, 1042, 1043, 1044, 1045, 1046, 1047, 1048, 1049, 1050, 1051, 1052, 1053, 1054, 1055, 1056, 1057, 1058, 1059, 1060, 1061, 1062, 1063, 1064, 1065, 1066, 1067, 1068, 1069, 1070, 1071, 1072, 1073, 1074, 1075, 1076, 1077, 1078, 1079, 1080, 1081, 1082, 1083, 1084, 1085, 1086, 1087, 1088, 1089, 1090, 1091, 1092] (by decide +kernel) (by decide +kernel)
set_option maxRecDepth 20000 in
theorem gL_law_X12_firstFailure : GoodIn wsL_law (wsV RL 140 RX12 yX12_firstFailure wsX12_firstFailure) := goodIn_app (goodIn_of _ (by decide +kernel)) ggL_law_X12_firstFailure
set_option maxRecDepth 20000 in
theorem ggL_law_X11_draw : GoodIn wsL_law wsX11_draw := goodIn_r _ [667, 41, 32, 36, 37, 571, 572, 573, 2, 574, 20, 16, 575, 495, 31, 496, 497, 83, 84, 85, 520, 521, 522, 576, 35, 577, 578, 91, 89, 90, 98, 92, 579, 140, 141, 142, 580, 581, 582, 583, 93, 94, 95, 96, 97, 584, 585, 586, 587, 588, 589, 590, 591, 592, 593, 594, 595, 198, 199, 596, 597, 598, 599, 600, 601, 602, 668, 40, 669, 670, 102, 671, 672, 673, 674, 675, 676, 677, 678, 679, 680, 681, 104, 682, 683, 684, 685, 623, 624, 625, 626, 1025, 1026, 1027, 1028, 1029, 1030, 1031, 1032, 1033, 1034, 1035, 1036, 1037, 1038, 1039, 1040, 1104, 1105, 1106, 1117, 1118, 1095, 1096, 1097, 1098, 1099, 1100, 1107, 1108, 1109, 1110, 1111, 1112, 1113, 1114, 1115, 1116, 1093, 1094] (by decide +kernel) (by decide +kernel)
set_option maxRecDepth 20000 in
theorem gL_law_X11_draw : GoodIn wsL_law (wsV RL 141 RX11 yX11_draw wsX11_draw) := goodIn_app (goodIn_of _ (by decide +kernel)) ggL_law_X11_draw
set_option maxRecDepth 20000 in
theorem ggL_law_X12_draw : GoodIn wsL_law wsX12_draw := goodIn_r _ [689, 690, 152, 514, 151, 515, 510, 511, 512, 5, 513, 291, 691, 692, 693, 694, 695, 696, 697, 698, 162, 547, 548, 549, 550, 276, 551, 552, 553, 554, 153, 159, 555, 556, 557, 558, 559, 560, 561, 562, 150, 563, 564, 565, 566, 699, 700, 701, 702, 631, 161, 632, 633, 634, 635, 160, 636, 637, 638, 639, 1041, 1042, 1043, 1044, 1045, 1046, 1047, 1048, 1049, 1050, 1051, 1052, 1053, 1054, 1055, 1056, 1057, 1058, 1059, 1060, 1061, 1062, 1063, 1064, 1065, 1066, 1067, 1068, 1069, 1070, 1071, 1072, 1073, 1074, 1075, 1076, 1077, 1078, 1079, 1080, 1081, 1082, 1083, 1084, 1085, 1086, 1087, 1088, 1089, 1090, 1091, 1092] (by decide +kernel) (by decide +kernel)
set_option maxRecDepth 20000 in
theorem gL_law_X12_draw : GoodIn wsL_law (wsV RL 144 RX12 yX12_draw wsX12_draw) := goodIn_app (goodIn_of _ (by decide +kernel)) ggL_law_X12_draw
set_option maxRecDepth 20000 in
theorem ggL_law_X11_output : GoodIn wsL_law wsX11_output := goodIn_r _ [706, 41, 1025, 1026, 1027, 1028, 1029, 1030, 1031, 1032, 1033, 1034, 1035, 1036, 1037, 1038, 1039, 1040, 1117, 1118] (by decide +kernel) (by decide +kernel)
set_option maxRecDepth 20000 in
theorem gL_law_X11_output : GoodIn wsL_law (wsV RL 145 RX11 yX11_output wsX11_output) := goodIn_app (goodIn_of _ (by decide +kernel)) ggL_law_X11_output
set_option maxRecDepth 20000 in
theorem ggL_law_X12_output : GoodIn wsL_law wsX12_output := goodIn_r _ [710, 690, 162, 221, 222, 5, 223, 1041, 1042, 1043, 1044, 1045, 1046, 1047, 1048, 1049, 1050, 1051, 1052, 1053, 1054, 1055, 1056, 1057, 1058, 1059, 1060, 1061, 1062, 1063, 1064, 1065, 1066, 1067, 1068, 1069, 1070, 1071, 1072, 1073, 1074, 1075, 1076, 1077, 1078, 1079, 1080, 1081, 1082, 1083, 1084, 1085, 1086, 1087, 1088, 1089, 1090, 1091, 1092] (by decide +kernel) (by decide +kernel)
set_option maxRecDepth 20000 in
theorem gL_law_X12_output : GoodIn wsL_law (wsV RL 148 RX12 yX12_output wsX12_output) := goodIn_app (goodIn_of _ (by decide +kernel)) ggL_law_X12_output
set_option maxRecDepth 20000 in
theorem ggL_law_X11_findLabelling : GoodIn wsL_law wsX11_findLabelling := goodIn_r _ [714, 45, 20, 715, 716, 717, 2, 718, 719, 44, 720, 721, 113, 109, 111, 114, 722, 211, 212, 213, 115, 723, 724, 725, 726, 727, 19, 728, 729, 68, 69, 730, 70, 71, 72, 73, 495, 31, 496, 497, 83, 84, 85, 656, 657, 658, 659, 537, 538, 539, 540, 541, 542, 393, 394, 395, 396, 378, 379, 380, 731, 732, 733, 734, 1025, 1026, 1027, 1028, 1029, 1030, 1031, 1032, 1033, 1034, 1035, 1036, 1037, 1038, 1039, 1040, 1095, 1096, 1097, 1098, 1099, 1100, 1119, 1120, 1121, 1122, 1123, 1104, 1105, 1106, 1093, 1094] (by decide +kernel) (by decide +kernel)
set_option maxRecDepth 20000 in
theorem gL_law_X11_findLabelling : GoodIn wsL_law (wsV RL 149 RX11 yX11_findLabelling wsX11_findLabelling) := goodIn_app (goodIn_of _ (by decide +kernel)) ggL_law_X11_findLabelling
set_option maxRecDepth 20000 in
theorem ggL_law_X12_findLabelling : GoodIn wsL_law wsX12_findLabelling := goodIn_r _ [738, 739, 740, 741, 5, 742, 291, 221, 222, 223, 743, 744, 745, 746, 153, 165, 149, 166, 164, 163, 747, 748, 749, 750, 751, 752, 753, 262, 263, 264, 224, 225, 226, 227, 150, 754, 661, 662, 663, 151, 648, 649, 650, 651, 514, 515, 547, 548, 549, 550, 276, 551, 552, 553, 554, 159, 152, 555, 556, 557, 558, 559, 560, 561, 562, 563, 564, 565, 566, 1041, 1042, 1043, 1044, 1045, 1046, 1047, 1048, 1049, 1050, 1051, 1052, 1053, 1054, 1055, 1056, 1057, 1058, 1059, 1060, 1061, 1062, 1063, 1064, 1065, 1066, 1067, 1068, 1069, 1070, 1071, 1072, 1073, 1074, 1075, 1076, 1077, 1078, 1079, 1080, 1081, 1082, 1083, 1084, 1085, 1086, 1087, 1088, 1089, 1090, 1091, 1092] (by decide +kernel) (by decide +kernel)
set_option maxRecDepth 20000 in
theorem gL_law_X12_findLabelling : GoodIn wsL_law (wsV RL 152 RX12 yX12_findLabelling wsX12_findLabelling) := goodIn_app (goodIn_of _ (by decide +kernel)) ggL_law_X12_findLabelling
set_option maxRecDepth 20000 in
theorem ggL_law_X11_labellingCount : GoodIn wsL_law wsX11_labellingCount := goodIn_r _ [758, 45, 20, 715, 716, 717, 2, 718, 759, 44, 760, 761, 113, 109, 111, 723, 724, 725, 726, 727, 19, 728, 729, 68, 69, 730, 211, 212, 213, 70, 71, 72, 73, 495, 31, 496, 497, 83, 84, 85, 656, 657, 658, 659, 537, 538, 539, 540, 541, 542, 393, 394, 395, 396, 378, 379, 380, 731, 732, 733, 734, 1025, 1026, 1027, 1028, 1029, 1030, 1031, 1032, 1033, 1034, 1035, 1036, 1037, 1038, 1039, 1040, 1095, 1096, 1097, 1098, 1099, 1100, 1119, 1120, 1121, 1122, 1123, 1104, 1105, 1106, 1093, 1094] (by decide +kernel) (by decide +kernel)
set_option maxRecDepth 20000 in
theorem gL_law_X11_labellingCount : GoodIn wsL_law (wsV RL 153 RX11 yX11_labellingCount wsX11_labellingCount) := goodIn_app (goodIn_of _ (by decide +kernel)) ggL_law_X11_labellingCount
set_option maxRecDepth 20000 in
theorem ggL_law_X12_labellingCount : GoodIn wsL_law wsX12_labellingCount := goodIn_r _ [765, 739, 740, 741, 5, 742, 291, 221, 222, 223, 743, 744, 745, 746, 153, 165, 149, 166, 164, 163, 747, 748, 749, 750, 751, 752, 753, 262, 263, 264, 224, 225, 226, 227, 150, 754, 661, 662, 663, 151, 648, 649, 650, 651, 514, 515, 547, 548, 549, 550, 276, 551, 552, 553, 554, 159, 152, 555, 556, 557, 558, 559, 560, 561, 562, 563, 564, 565, 566, 1041, 1042, 1043, 1044, 1045, 1046, 1047, 1048, 1049, 1050, 1051, 1052, 1053, 1054, 1055, 1056, 1057, 1058, 1059, 1060, 1061, 1062, 1063, 1064, 1065, 1066, 1067, 1068, 1069, 1070, 1071, 1072, 1073, 1074, 1075, 1076, 1077, 1078, 1079, 1080, 1081, 1082, 1083, 1084, 1085, 1086, 1087, 1088, 1089, 1090, 1091, 1092] (by decide +kernel) (by decide +kernel)
set_option maxRecDepth 20000 in
theorem gL_law_X12_labellingCount : GoodIn wsL_law (wsV RL 156 RX12 yX12_labellingCount wsX12_labellingCount) := goodIn_app (goodIn_of _ (by decide +kernel)) ggL_law_X12_labellingCount
set_option maxRecDepth 20000 in
theorem ggL_law_X11_foundLabel : GoodIn wsL_law wsX11_foundLabel := goodIn_r _ [769, 45, 1025, 1026, 1027, 1028, 1029, 1030, 1031, 1032, 1033, 1034, 1035, 1036, 1037, 1038, 1039, 1040, 1119, 1120, 1121, 1122, 1123] (by decide +kernel) (by decide +kernel)
set_option maxRecDepth 20000 in
theorem gL_law_X11_foundLabel : GoodIn wsL_law (wsV RL 157 RX11 yX11_foundLabel wsX11_foundLabel) := goodIn_app (goodIn_of _ (by decide +kernel)) ggL_law_X11_foundLabel
set_option maxRecDepth 20000 in
theorem ggL_law_X12_foundLabel : GoodIn wsL_law wsX12_foundLabel := goodIn_r _ [773, 164, 163, 221, 222, 5, 223, 1041, 1042, 1043, 1044, 1045, 1046, 1047, 1048, 1049, 1050, 1051, 1052, 1053, 1054, 1055, 1056, 1057, 1058, 1059, 1060, 1061, 1062, 1063, 1064, 1065, 1066, 1067, 1068, 1069, 1070, 1071, 1072, 1073, 1074, 1075, 1076, 1077, 1078, 1079, 1080, 1081, 1082, 1083, 1084, 1085, 1086, 1087, 1088, 1089, 1090, 1091, 1092] (by decide +kernel) (by decide +kernel)
set_option maxRecDepth 20000 in
theorem gL_law_X12_foundLabel : GoodIn wsL_law (wsV RL 160 RX12 yX12_foundLabel wsX12_foundLabel) := goodIn_app (goodIn_of _ (by decide +kernel)) ggL_law_X12_foundLabel
set_option maxRecDepth 20000 in
theorem ggL_law_X11_applyLabelling : GoodIn wsL_law wsX11_applyLabelling := goodIn_r _ [777, 45, 20, 16, 116, 15, 117, 118, 63, 64, 1025, 1026, 1027, 1028, 1029, 1030, 1031, 1032, 1033, 1034, 1035, 1036, 1037, 1038, 1039, 1040, 1119, 1120, 1121, 1122, 1123, 1095, 1096, 1097, 1098, 1099, 1100, 1093, 1094] (by decide +kernel) (by decide +kernel)
set_option maxRecDepth 20000 in
theorem gL_law_X11_applyLabelling : GoodIn wsL_law (wsV RL 161 RX11 yX11_applyLabelling wsX11_applyLabelling) := goodIn_app (goodIn_of _ (by decide +kernel)) ggL_law_X11_applyLabelling
set_option maxRecDepth 20000 in
theorem ggL_law_X12_applyLabelling : GoodIn wsL_law wsX12_applyLabelling := goodIn_r _ [781, 164, 291, 153, 163, 753, 262, 263, 5, 264, 149, 224, 225, 226, 227, 150, 1041, 1042, 1043, 1044, 1045, 1046, 1047, 1048, 1049, 1050, 1051, 1052, 1053, 1054, 1055, 1056, 1057, 1058, 1059, 1060, 1061, 1062, 1063, 1064, 1065, 1066, 1067, 1068, 1069, 1070, 1071, 1072, 1073, 1074, 1075, 1076, 1077, 1078, 1079, 1080, 1081, 1082, 1083, 1084, 1085, 1086, 1087, 1088, 1089, 1090, 1091, 1092] (by decide +kernel) (by decide +kernel)
set_option maxRecDepth 20000 in
theorem gL_law_X12_applyLabelling : GoodIn wsL_law (wsV RL 164 RX12 yX12_applyLabelling wsX12_applyLabelling) := goodIn_app (goodIn_of _ (by decide +kernel)) ggL_law_X12_applyLabelling
set_option maxRecDepth 20000 in
theorem ggL_law_X11_feed : GoodIn wsL_law wsX11_feed := goodIn_r _ [785, 49, 786, 48, 787, 788, 122, 123, 1025, 1026, 1027, 1028, 1029, 1030, 1031, 1032, 1033, 1034, 1035, 1036, 1037, 1038, 1039, 1040, 1124, 1125] (by decide +kernel) (by decide +kernel)
set_option maxRecDepth 20000 in
theorem gL_law_X11_feed : GoodIn wsL_law (wsV RL 165 RX11 yX11_feed wsX11_feed) := goodIn_app (goodIn_of _ (by decide +kernel)) ggL_law_X11_feed
set_option maxRecDepth 20000 in
theorem ggL_law_X12_feed : GoodIn wsL_law wsX12_feed := goodIn_r _ [792, 793, 167, 221, 222, 5, 223, 1041, 1042, 1043, 1044, 1045, 1046, 1047, 1048, 1049, 1050, 1051, 1052, 1053, 1054, 1055, 1056, 1057, 1058, 1059, 1060, 1061, 1062, 1063, 1064, 1065, 1066, 1067, 1068, 1069, 1070, 1071, 1072, 1073, 1074, 1075, 1076, 1077, 1078, 1079, 1080, 1081, 1082, 1083, 1084, 1085, 1086, 1087, 1088, 1089, 1090, 1091, 1092] (by decide +kernel) (by decide +kernel)
set_option maxRecDepth 20000 in
theorem gL_law_X12_feed : GoodIn wsL_law (wsV RL 168 RX12 yX12_feed wsX12_feed) := goodIn_app (goodIn_of _ (by decide +kernel)) ggL_law_X12_feed
set_option maxRecDepth 20000 in
theorem ggL_law_X11_addRule : GoodIn wsL_law wsX11_addRule := goodIn_r _ [797, 24, 49, 798, 48, 799, 800, 801, 802, 803, 804, 122, 123, 805, 806, 807, 808, 809, 810, 811, 812, 813, 23, 814, 815, 77, 78, 79, 1025, 1026, 1027, 1028, 1029, 1030, 1031, 1032, 1033, 1034, 1035, 1036, 1037, 1038, 1039, 1040, 1101, 1102, 1103, 1124, 1125] (by decide +kernel) (by decide +kernel)
set_option maxRecDepth 20000 in
theorem gL_law_X11_addRule : GoodIn wsL_law (wsV RL 169 RX11 yX11_addRule wsX11_addRule) := goodIn_app (goodIn_of _ (by decide +kernel)) ggL_law_X11_addRule
set_option maxRecDepth 20000 in
theorem ggL_law_X12_addRule : GoodIn wsL_law wsX12_addRule := goodIn_r _ [819, 820, 793, 167, 168, 169, 821, 822, 823, 5, 824, 825, 826, 827, 828, 829, 830, 831, 832, 221, 222, 223, 1041, 1042, 1043, 1044, 1045, 1046, 1047, 1048, 1049, 1050, 1051, 1052, 1053, 1054, 1055, 1056, 1057, 1058, 1059, 1060, 1061, 1062, 1063, 1064, 1065, 1066, 1067, 1068, 1069, 1070, 1071, 1072, 1073, 1074, 1075, 1076, 1077, 1078, 1079, 1080, 1081, 1082, 1083, 1084, 1085, 1086, 1087, 1088, 1089, 1090, 1091, 1092] (by decide +kernel) (by decide +kernel)
set_option maxRecDepth 20000 in
theorem gL_law_X12_addRule : GoodIn wsL_law (wsV RL 172 RX12 yX12_addRule wsX12_addRule) := goodIn_app (goodIn_of _ (by decide +kernel)) ggL_law_X12_addRule
set_option maxRecDepth 20000 in
theorem ggL_law_X11_clearRules : GoodIn wsL_law wsX11_clearRules := goodIn_r _ [836, 24, 1025, 1026, 1027, 1028, 1029, 1030, 1031, 1032, 1033, 1034, 1035, 1036, 1037, 1038, 1039, 1040, 1101, 1102, 1103] (by decide +kernel) (by decide +kernel)
set_option maxRecDepth 20000 in
theorem gL_law_X11_clearRules : GoodIn wsL_law (wsV RL 173 RX11 yX11_clearRules wsX11_clearRules) := goodIn_app (goodIn_of _ (by decide +kernel)) ggL_law_X11_clearRules
set_option maxRecDepth 20000 in
theorem ggL_law_X12_clearRules : GoodIn wsL_law wsX12_clearRules := goodIn_r _ [840, 820, 1041, 1042, 1043, 1044, 1045, 1046, 1047, 1048, 1049, 1050, 1051, 1052, 1053, 1054, 1055, 1056, 1057, 1058, 1059, 1060, 1061, 1062, 1063, 1064, 1065, 1066, 1067, 1068, 1069, 1070, 1071, 1072, 1073, 1074, 1075, 1076, 1077, 1078, 1079, 1080, 1081, 1082, 1083, 1084, 1085, 1086, 1087, 1088, 1089, 1090, 1091, 1092] (by decide +kernel) (by decide +kernel)
set_option maxRecDepth 20000 in
theorem gL_law_X12_clearRules : GoodIn wsL_law (wsV RL 176 RX12 yX12_clearRules wsX12_clearRules) := goodIn_app (goodIn_of _ (by decide +kernel)) ggL_law_X12_clearRules
set_option maxRecDepth 20000 in
theorem ggL_law_X11_explore : GoodIn wsL_law wsX11_explore := goodIn_r _ [844, 49, 53, 24, 20, 798, 48, 799, 800, 801, 802, 803, 804, 122, 123, 805, 806, 807, 808, 809, 810, 811, 812, 845, 52, 846, 847, 128, 129, 130, 131, 326, 19, 327, 328, 68, 70, 269, 270, 271, 69, 848, 849, 850, 851, 852, 853, 854, 855, 856, 857, 858, 859, 860, 861, 862, 863, 864, 865, 866, 867, 868, 869, 71, 72, 73, 284, 285, 286, 727, 728, 729, 730, 211, 212, 213, 1025, 1026, 1027, 1028, 1029, 1030, 1031, 1032, 1033, 1034, 1035, 1036, 1037, 1038, 1039, 1040, 1124, 1125, 1126, 1127, 1128, 1129, 1095, 1096, 1097, 1098, 1099, 1100, 1101, 1102, 1103] (by decide +kernel) (by decide +kernel)
set_option maxRecDepth 20000 in
theorem gL_law_X11_explore : GoodIn wsL_law (wsV RL 177 RX11 yX11_explore wsX11_explore) := goodIn_app (goodIn_of _ (by decide +kernel)) ggL_law_X11_explore
set_option maxRecDepth 20000 in
theorem ggL_law_X12_explore : GoodIn wsL_law wsX12_explore := goodIn_r _ [873, 793, 874, 175, 167, 875, 876, 276, 291, 170, 154, 171, 156, 172, 151, 173, 152, 174, 153, 821, 822, 823, 5, 824, 825, 826, 827, 828, 829, 830, 831, 832, 221, 222, 223, 877, 878, 879, 880, 881, 882, 883, 884, 820, 169, 176, 885, 886, 887, 888, 168, 889, 890, 891, 892, 893, 894, 895, 896, 897, 898, 899, 900, 901, 902, 903, 904, 747, 748, 749, 1041, 1042, 1043, 1044, 1045, 1046, 1047, 1048, 1049, 1050, 1051, 1052, 1053, 1054, 1055, 1056, 1057, 1058, 1059, 1060, 1061, 1062, 1063, 1064, 1065, 1066, 1067, 1068, 1069, 1070, 1071, 1072, 1073, 1074, 1075, 1076, 1077, 1078, 1079, 1080, 1081, 1082, 1083, 1084, 1085, 1086, 1087, 1088, 1089, 1090, 1091, 1092] (by decide +kernel) (by decide +kernel)
set_option maxRecDepth 20000 in
theorem gL_law_X12_explore : GoodIn wsL_law (wsV RL 180 RX12 yX12_explore wsX12_explore) := goodIn_app (goodIn_of _ (by decide +kernel)) ggL_law_X12_explore
set_option maxRecDepth 20000 in
theorem ggL_law_X11_failure : GoodIn wsL_law wsX11_failure := goodIn_r _ [908, 53, 1025, 1026, 1027, 1028, 1029, 1030, 1031, 1032, 1033, 1034, 1035, 1036, 1037, 1038, 1039, 1040, 1126, 1127, 1128, 1129] (by decide +kernel) (by decide +kernel)
set_option maxRecDepth 20000 in
theorem gL_law_X11_failure : GoodIn wsL_law (wsV RL 181 RX11 yX11_failure wsX11_failure) := goodIn_app (goodIn_of _ (by decide +kernel)) ggL_law_X11_failure
set_option maxRecDepth 20000 in
theorem ggL_law_X12_failure : GoodIn wsL_law wsX12_failure := goodIn_r _ [912, 176, 221, 222, 5, 223, 1041, 1042, 1043, 1044, 1045, 1046, 1047, 1048, 1049, 1050, 1051, 1052, 1053, 1054, 1055, 1056, 1057, 1058, 1059, 1060, 1061, 1062, 1063, 1064, 1065, 1066, 1067, 1068, 1069, 1070, 1071, 1072, 1073, 1074, 1075, 1076, 1077, 1078, 1079, 1080, 1081, 1082, 1083, 1084, 1085, 1086, 1087, 1088, 1089, 1090, 1091, 1092] (by decide +kernel) (by decide +kernel)
set_option maxRecDepth 20000 in
theorem gL_law_X12_failure : GoodIn wsL_law (wsV RL 184 RX12 yX12_failure wsX12_failure) := goodIn_app (goodIn_of _ (by decide +kernel)) ggL_law_X12_failure
set_option maxRecDepth 20000 in
theorem ggL_law_X11_wordLength : GoodIn wsL_law wsX11_wordLength := goodIn_r _ [916, 20, 281, 19, 282, 283, 68, 808, 806, 809, 1025, 1026, 1027, 1028, 1029, 1030, 1031, 1032, 1033, 1034, 1035, 1036, 1037, 1038, 1039, 1040, 1095, 1096, 1097, 1098, 1099, 1100] (by decide +kernel) (by decide +kernel)
set_option maxRecDepth 20000 in
theorem gL_law_X11_wordLength : GoodIn wsL_law (wsV RL 185 RX11 yX11_wordLength wsX11_wordLength) := goodIn_app (goodIn_of _ (by decide +kernel)) ggL_law_X11_wordLength
set_option maxRecDepth 20000 in
theorem ggL_law_X12_wordLength : GoodIn wsL_law wsX12_wordLength := goodIn_r _ [920, 154, 292, 293, 294, 5, 295, 276, 221, 222, 223, 1041, 1042, 1043, 1044, 1045, 1046, 1047, 1048, 1049, 1050, 1051, 1052, 1053, 1054, 1055, 1056, 1057, 1058, 1059, 1060, 1061, 1062, 1063, 1064, 1065, 1066, 1067, 1068, 1069, 1070, 1071, 1072, 1073, 1074, 1075, 1076, 1077, 1078, 1079, 1080, 1081, 1082, 1083, 1084, 1085, 1086, 1087, 1088, 1089, 1090, 1091, 1092] (by decide +kernel) (by decide +kernel)
set_option maxRecDepth 20000 in
theorem gL_law_X12_wordLength : GoodIn wsL_law (wsV RL 188 RX12 yX12_wordLength wsX12_wordLength) := goodIn_app (goodIn_of _ (by decide +kernel)) ggL_law_X12_wordLength
set_option maxRecDepth 20000 in
theorem ggL_law_X11_letter : GoodIn wsL_law wsX11_letter := goodIn_r _ [924, 20, 281, 19, 282, 283, 68, 808, 806, 809, 925, 926, 1025, 1026, 1027, 1028, 1029, 1030, 1031, 1032, 1033, 1034, 1035, 1036, 1037, 1038, 1039, 1040, 1095, 1096, 1097, 1098, 1099, 1100] (by decide +kernel) (by decide +kernel)
set_option maxRecDepth 20000 in
theorem gL_law_X11_letter : GoodIn wsL_law (wsV RL 189 RX11 yX11_letter wsX11_letter) := goodIn_app (goodIn_of _ (by decide +kernel)) ggL_law_X11_letter
set_option maxRecDepth 20000 in
theorem ggL_law_X12_letter : GoodIn wsL_law wsX12_letter := goodIn_r _ [930, 154, 156, 292, 293, 294, 5, 295, 276, 221, 222, 223, 1041, 1042, 1043, 1044, 1045, 1046, 1047, 1048, 1049, 1050, 1051, 1052, 1053, 1054, 1055, 1056, 1057, 1058, 1059, 1060, 1061, 1062, 1063, 1064, 1065, 1066, 1067, 1068, 1069, 1070, 1071, 1072, 1073, 1074, 1075, 1076, 1077, 1078, 1079, 1080, 1081, 1082, 1083, 1084, 1085, 1086, 1087, 1088, 1089, 1090, 1091, 1092] (by decide +kernel) (by decide +kernel)
set_option maxRecDepth 20000 in
theorem gL_law_X12_letter : GoodIn wsL_law (wsV RL 192 RX12 yX12_letter wsX12_letter) := goodIn_app (goodIn_of _ (by decide +kernel)) ggL_law_X12_letter
set_option maxRecDepth 20000 in
theorem ggL_law_X11_newArray : GoodIn wsL_law wsX11_newArray := goodIn_r _ [934, 57, 935, 936, 2, 937, 938, 56, 939, 940, 135, 138, 941, 942, 141, 943, 1025, 1026, 1027, 1028, 1029, 1030, 1031, 1032, 1033, 1034, 1035, 1036, 1037, 1038, 1039, 1040, 1130, 1131] (by decide +kernel) (by decide +kernel)
set_option maxRecDepth 20000 in
theorem gL_law_X11_newArray : GoodIn wsL_law (wsV RL 193 RX11 yX11_newArray wsX11_newArray) := goodIn_app (goodIn_of _ (by decide +kernel)) ggL_law_X11_newArray
set_option maxRecDepth 20000 in
theorem ggL_law_X12_newArray : GoodIn wsL_law wsX12_newArray := goodIn_r _ [947, 177, 179, 948, 949, 5, 950, 221, 222, 223, 1041, 1042, 1043, 1044, 1045, 1046, 1047, 1048, 1049, 1050, 1051, 1052, 1053, 1054, 1055, 1056, 1057, 1058, 1059, 1060, 1061, 1062, 1063, 1064, 1065, 1066, 1067, 1068, 1069, 1070, 1071, 1072, 1073, 1074, 1075, 1076, 1077, 1078, 1079, 1080, 1081, 1082, 1083, 1084, 1085, 1086, 1087, 1088, 1089, 1090, 1091, 1092] (by decide +kernel) (by decide +kernel)
set_option maxRecDepth 20000 in
theorem gL_law_X12_newArray : GoodIn wsL_law (wsV RL 196 RX12 yX12_newArray wsX12_newArray) := goodIn_app (goodIn_of _ (by decide +kernel)) ggL_law_X12_newArray
set_option maxRecDepth 20000 in
theorem ggL_law_X11_setElement : GoodIn wsL_law wsX11_setElement := goodIn_r _ [954, 57, 935, 936, 2, 937, 955, 56, 956, 957, 135, 958, 959, 960, 1025, 1026, 1027, 1028, 1029, 1030, 1031, 1032, 1033, 1034, 1035, 1036, 1037, 1038, 1039, 1040, 1130, 1131] (by decide +kernel) (by decide +kernel)
set_option maxRecDepth 20000 in
theorem gL_law_X11_setElement : GoodIn wsL_law (wsV RL 199 RX11 yX11_setElement wsX11_setElement) := goodIn_app (goodIn_of _ (by decide +kernel)) ggL_law_X11_setElement
set_option maxRecDepth 20000 in
theorem ggL_law_X12_setElement : GoodIn wsL_law wsX12_setElement := goodIn_r _ [964, 177, 179, 948, 949, 5, 950, 221, 222, 223, 1041, 1042, 1043, 1044, 1045, 1046, 1047, 1048, 1049, 1050, 1051, 1052, 1053, 1054, 1055, 1056, 1057, 1058, 1059, 1060, 1061, 1062, 1063, 1064, 1065, 1066, 1067, 1068, 1069, 1070, 1071, 1072, 1073, 1074, 1075, 1076, 1077, 1078, 1079, 1080, 1081, 1082, 1083, 1084, 1085, 1086, 1087, 1088, 1089, 1090, 1091, 1092] (by decide +kernel) (by decide +kernel)
set_option maxRecDepth 20000 in
theorem gL_law_X12_setElement : GoodIn wsL_law (wsV RL 203 RX12 yX12_setElement wsX12_setElement) := goodIn_app (goodIn_of _ (by decide +kernel)) ggL_law_X12_setElement
set_option maxRecDepth 20000 in
theorem ggL_law_X11_element : GoodIn wsL_law wsX11_element := goodIn_r _ [968, 57, 969, 935, 936, 2, 937, 958, 56, 959, 960, 135, 1025, 1026, 1027, 1028, 1029, 1030, 1031, 1032, 1033, 1034, 1035, 1036, 1037, 1038, 1039, 1040, 1130, 1131] (by decide +kernel) (by decide +kernel)
set_option maxRecDepth 20000 in
theorem gL_law_X11_element : GoodIn wsL_law (wsV RL 204 RX11 yX11_element wsX11_element) := goodIn_app (goodIn_of _ (by decide +kernel)) ggL_law_X11_element
set_option maxRecDepth 20000 in
theorem ggL_law_X12_element : GoodIn wsL_law wsX12_element := goodIn_r _ [973, 177, 179, 974, 948, 949, 5, 950, 221, 222, 223, 1041, 1042, 1043, 1044, 1045, 1046, 1047, 1048, 1049, 1050, 1051, 1052, 1053, 1054, 1055, 1056, 1057, 1058, 1059, 1060, 1061, 1062, 1063, 1064, 1065, 1066, 1067, 1068, 1069, 1070, 1071, 1072, 1073, 1074, 1075, 1076, 1077, 1078, 1079, 1080, 1081, 1082, 1083, 1084, 1085, 1086, 1087, 1088, 1089, 1090, 1091, 1092] (by decide +kernel) (by decide +kernel)
set_option maxRecDepth 20000 in
theorem gL_law_X12_element : GoodIn wsL_law (wsV RL 208 RX12 yX12_element wsX12_element) := goodIn_app (goodIn_of _ (by decide +kernel)) ggL_law_X12_element
set_option maxRecDepth 20000 in
theorem ggL_law_X11_saveReachable : GoodIn wsL_law wsX11_saveReachable := goodIn_r _ [978, 20, 59, 57, 935, 936, 2, 937, 466, 19, 467, 468, 68, 469, 393, 394, 395, 396, 378, 379, 380, 70, 71, 73, 72, 938, 56, 939, 940, 135, 138, 941, 942, 141, 943, 1025, 1026, 1027, 1028, 1029, 1030, 1031, 1032, 1033, 1034, 1035, 1036, 1037, 1038, 1039, 1040, 1095, 1096, 1097, 1098, 1099, 1100, 1130, 1131] (by decide +kernel) (by decide +kernel)
set_option maxRecDepth 20000 in
theorem gL_law_X11_saveReachable : GoodIn wsL_law (wsV RL 209 RX11 yX11_saveReachable wsX11_saveReachable) := goodIn_app (goodIn_of _ (by decide +kernel)) ggL_law_X11_saveReachable
set_option maxRecDepth 20000 in
theorem ggL_law_X12_saveReachable : GoodIn wsL_law wsX12_saveReachable := goodIn_r _ [982, 177, 276, 179, 948, 949, 5, 950, 221, 222, 223, 385, 386, 387, 388, 157, 291, 151, 152, 401, 402, 403, 404, 1041, 1042, 1043, 1044, 1045, 1046, 1047, 1048, 1049, 1050, 1051, 1052, 1053, 1054, 1055, 1056, 1057, 1058, 1059, 1060, 1061, 1062, 1063, 1064, 1065, 1066, 1067, 1068, 1069, 1070, 1071, 1072, 1073, 1074, 1075, 1076, 1077, 1078, 1079, 1080, 1081, 1082, 1083, 1084, 1085, 1086, 1087, 1088, 1089, 1090, 1091, 1092] (by decide +kernel) (by decide +kernel)
set_option maxRecDepth 20000 in
theorem gL_law_X12_saveReachable : GoodIn wsL_law (wsV RL 212 RX12 yX12_saveReachable wsX12_saveReachable) := goodIn_app (goodIn_of _ (by decide +kernel)) ggL_law_X12_saveReachable
set_option maxRecDepth 20000 in
theorem ggL_law_X11_compareReachable : GoodIn wsL_law wsX11_compareReachable := goodIn_r _ [986, 57, 20, 59, 987, 988, 989, 990, 935, 936, 2, 937, 955, 56, 956, 957, 135, 466, 19, 467, 468, 68, 469, 393, 394, 395, 396, 378, 379, 380, 70, 71, 73, 72, 1025, 1026, 1027, 1028, 1029, 1030, 1031, 1032, 1033, 1034, 1035, 1036, 1037, 1038, 1039, 1040, 1130, 1131, 1095, 1096, 1097, 1098, 1099, 1100] (by decide +kernel) (by decide +kernel)
set_option maxRecDepth 20000 in
theorem gL_law_X11_compareReachable : GoodIn wsL_law (wsV RL 213 RX11 yX11_compareReachable wsX11_compareReachable) := goodIn_app (goodIn_of _ (by decide +kernel)) ggL_law_X11_compareReachable
set_option maxRecDepth 20000 in
theorem ggL_law_X12_compareReachable : GoodIn wsL_law wsX12_compareReachable := goodIn_r _ [994, 177, 276, 179, 948, 949, 5, 950, 221, 222, 223, 385, 386, 387, 388, 157, 291, 151, 152, 401, 402, 403, 404, 1041, 1042, 1043, 1044, 1045, 1046, 1047, 1048, 1049, 1050, 1051, 1052, 1053, 1054, 1055, 1056, 1057, 1058, 1059, 1060, 1061, 1062, 1063, 1064, 1065, 1066, 1067, 1068, 1069, 1070, 1071, 1072, 1073, 1074, 1075, 1076, 1077, 1078, 1079, 1080, 1081, 1082, 1083, 1084, 1085, 1086, 1087, 1088, 1089, 1090, 1091, 1092] (by decide +kernel) (by decide +kernel)
set_option maxRecDepth 20000 in
theorem gL_law_X12_compareReachable : GoodIn wsL_law (wsV RL 216 RX12 yX12_compareReachable wsX12_compareReachable) := goodIn_app (goodIn_of _ (by decide +kernel)) ggL_law_X12_compareReachable
set_option maxRecDepth 20000 in
theorem ggL_law_X11_saveSnapshot : GoodIn wsL_law wsX11_saveSnapshot := goodIn_r _ [998, 26, 20, 25, 16, 27, 24, 28, 727, 19, 728, 729, 68, 69, 730, 211, 212, 213, 70, 71, 72, 73, 999, 15, 1000, 1001, 63, 210, 64, 1002, 23, 1003, 1004, 77, 78, 1005, 79, 1025, 1026, 1027, 1028, 1029, 1030, 1031, 1032, 1033, 1034, 1035, 1036, 1037, 1038, 1039, 1040, 1095, 1096, 1097, 1098, 1099, 1100, 1093, 1094, 1101, 1102, 1103] (by decide +kernel) (by decide +kernel)
set_option maxRecDepth 20000 in
theorem gL_law_X11_saveSnapshot : GoodIn wsL_law (wsV RL 217 RX11 yX11_saveSnapshot wsX11_saveSnapshot) := goodIn_app (goodIn_of _ (by decide +kernel)) ggL_law_X11_saveSnapshot
set_option maxRecDepth 20000 in
theorem ggL_law_X12_saveSnapshot : GoodIn wsL_law wsX12_saveSnapshot := goodIn_r _ [1009, 1010, 276, 1011, 291, 1012, 820, 1013, 154, 180, 151, 181, 152, 182, 153, 183, 169, 184, 156, 185, 168, 186, 149, 187, 747, 748, 5, 749, 1014, 1015, 1016, 750, 751, 752, 1041, 1042, 1043, 1044, 1045, 1046, 1047, 1048, 1049, 1050, 1051, 1052, 1053, 1054, 1055, 1056, 1057, 1058, 1059, 1060, 1061, 1062, 1063, 1064, 1065, 1066, 1067, 1068, 1069, 1070, 1071, 1072, 1073, 1074, 1075, 1076, 1077, 1078, 1079, 1080, 1081, 1082, 1083, 1084, 1085, 1086, 1087, 1088, 1089, 1090, 1091, 1092] (by decide +kernel) (by decide +kernel)
set_option maxRecDepth 20000 in
theorem gL_law_X12_saveSnapshot : GoodIn wsL_law (wsV RL 220 RX12 yX12_saveSnapshot wsX12_saveSnapshot) := goodIn_app (goodIn_of _ (by decide +kernel)) ggL_law_X12_saveSnapshot
set_option maxRecDepth 20000 in
theorem ggL_law_X11_restoreSnapshot : GoodIn wsL_law wsX11_restoreSnapshot := goodIn_r _ [1020, 28, 20, 26, 16, 25, 24, 27, 727, 19, 728, 729, 68, 69, 730, 211, 212, 213, 70, 71, 72, 73, 999, 15, 1000, 1001, 63, 210, 64, 1002, 23, 1003, 1004, 77, 78, 1005, 79, 1025, 1026, 1027, 1028, 1029, 1030, 1031, 1032, 1033, 1034, 1035, 1036, 1037, 1038, 1039, 1040, 1095, 1096, 1097, 1098, 1099, 1100, 1093, 1094, 1101, 1102, 1103] (by decide +kernel) (by decide +kernel)
set_option maxRecDepth 20000 in
theorem gL_law_X11_restoreSnapshot : GoodIn wsL_law (wsV RL 221 RX11 yX11_restoreSnapshot wsX11_restoreSnapshot) := goodIn_app (goodIn_of _ (by decide +kernel)) ggL_law_X11_restoreSnapshot
set_option maxRecDepth 20000 in
theorem ggL_law_X12_restoreSnapshot : GoodIn wsL_law wsX12_restoreSnapshot := goodIn_r _ [1024, 1010, 1011, 276, 1012, 291, 1013, 820, 180, 154, 181, 151, 182, 152, 183, 153, 184, 169, 185, 156, 186, 168, 187, 149, 747, 748, 5, 749, 1014, 1015, 1016, 750, 751, 752, 224, 225, 226, 227, 150, 1041, 1042, 1043, 1044, 1045, 1046, 1047, 1048, 1049, 1050, 1051, 1052, 1053, 1054, 1055, 1056, 1057, 1058, 1059, 1060, 1061, 1062, 1063, 1064, 1065, 1066, 1067, 1068, 1069, 1070, 1071, 1072, 1073, 1074, 1075, 1076, 1077, 1078, 1079, 1080, 1081, 1082, 1083, 1084, 1085, 1086, 1087, 1088, 1089, 1090, 1091, 1092] (by decide +kernel) (by decide +kernel)
set_option maxRecDepth 20000 in
theorem gL_law_X12_restoreSnapshot : GoodIn wsL_law (wsV RL 224 RX12 yX12_restoreSnapshot wsX12_restoreSnapshot) := goodIn_app (goodIn_of _ (by decide +kernel)) ggL_law_X12_restoreSnapshot
theorem dL_law_0 : decode cL_law 0 = .ok (.new 7, 3) := by decide +kernel
theorem dL_law_3 : decode cL_law 3 = .ok (.dup, 1) := by decide +kernel
theorem dL_law_4 : decode cL_law 4 = .ok (.invokespecial 9, 3) := by decide +kernel
theorem dL_law_7 : decode cL_law 7 = .ok (.astore_n 1, 1) := by decide +kernel
theorem dL_law_8 : decode cL_law 8 = .ok (.new 10, 3) := by decide +kernel
theorem dL_law_11 : decode cL_law 11 = .ok (.dup, 1) := by decide +kernel
theorem dL_law_12 : decode cL_law 12 = .ok (.invokespecial 12, 3) := by decide +kernel
theorem dL_law_15 : decode cL_law 15 = .ok (.astore_n 2, 1) := by decide +kernel
theorem dL_law_16 : decode cL_law 16 = .ok (.iconst 0, 1) := by decide +kernel
theorem dL_law_17 : decode cL_law 17 = .ok (.istore_n 3, 1) := by decide +kernel
theorem dL_law_18 : decode cL_law 18 = .ok (.iload_n 3, 1) := by decide +kernel
theorem dL_law_19 : decode cL_law 19 = .ok (.aload_n 0, 1) := by decide +kernel
theorem dL_law_20 : decode cL_law 20 = .ok (.arraylength, 1) := by decide +kernel
theorem dL_law_21 : decode cL_law 21 = .ok (.iconst 5, 1) := by decide +kernel
theorem dL_law_22 : decode cL_law 22 = .ok (.isub, 1) := by decide +kernel
theorem dL_law_23 : decode cL_law 23 = .ok (.if_icmp .gt 1419, 3) := by decide +kernel
theorem dL_law_26 : decode cL_law 26 = .ok (.aload_n 0, 1) := by decide +kernel
theorem dL_law_27 : decode cL_law 27 = .ok (.iload_n 3, 1) := by decide +kernel
theorem dL_law_28 : decode cL_law 28 = .ok (.iaload, 1) := by decide +kernel
theorem dL_law_29 : decode cL_law 29 = .ok (.bipush 63, 2) := by decide +kernel
theorem dL_law_31 : decode cL_law 31 = .ok (.iand, 1) := by decide +kernel
theorem dL_law_32 : decode cL_law 32 = .ok (.tableswitch 1404 0 50 #[220, 253, 286, 319, 332, 345, 388, 411, 444, 457, 470, 483, 506, 529, 552, 585, 608, 631, 654, 667, 690, 703, 716, 729, 742, 775, 798, 821, 854, 897, 910, 923, 946, 969, 992, 1015, 1038, 1051, 1074, 1087, 1100, 1113, 1136, 1159, 1192, 1225, 1298, 1332, 1355, 1378, 1391], 220) := by decide +kernel
theorem dL_law_252 : decode cL_law 252 = .ok (.aload_n 1, 1) := by decide +kernel
theorem dL_law_253 : decode cL_law 253 = .ok (.aload_n 0, 1) := by decide +kernel
theorem dL_law_254 : decode cL_law 254 = .ok (.iload_n 3, 1) := by decide +kernel
theorem dL_law_255 : decode cL_law 255 = .ok (.iconst 1, 1) := by decide +kernel
theorem dL_law_256 : decode cL_law 256 = .ok (.iadd, 1) := by decide +kernel
theorem dL_law_257 : decode cL_law 257 = .ok (.iaload, 1) := by decide +kernel
theorem dL_law_258 : decode cL_law 258 = .ok (.aload_n 0, 1) := by decide +kernel
theorem dL_law_259 : decode cL_law 259 = .ok (.iload_n 3, 1) := by decide +kernel
theorem dL_law_260 : decode cL_law 260 = .ok (.iconst 2, 1) := by decide +kernel
theorem dL_law_261 : decode cL_law 261 = .ok (.iadd, 1) := by decide +kernel
theorem dL_law_262 : decode cL_law 262 = .ok (.iaload, 1) := by decide +kernel
theorem dL_law_263 : decode cL_law 263 = .ok (.invokevirtual 13, 3) := by decide +kernel
theorem dL_law_266 : decode cL_law 266 = .ok (.aload_n 2, 1) := by decide +kernel
theorem dL_law_267 : decode cL_law 267 = .ok (.aload_n 0, 1) := by decide +kernel
theorem dL_law_268 : decode cL_law 268 = .ok (.iload_n 3, 1) := by decide +kernel
theorem dL_law_269 : decode cL_law 269 = .ok (.iconst 1, 1) := by decide +kernel
theorem dL_law_270 : decode cL_law 270 = .ok (.iadd, 1) := by decide +kernel
theorem dL_law_271 : decode cL_law 271 = .ok (.iaload, 1) := by decide +kernel
theorem dL_law_272 : decode cL_law 272 = .ok (.aload_n 0, 1) := by decide +kernel
theorem dL_law_273 : decode cL_law 273 = .ok (.iload_n 3, 1) := by decide +kernel
theorem dL_law_274 : decode cL_law 274 = .ok (.iconst 2, 1) := by decide +kernel
theorem dL_law_275 : decode cL_law 275 = .ok (.iadd, 1) := by decide +kernel
theorem dL_law_276 : decode cL_law 276 = .ok (.iaload, 1) := by decide +kernel
theorem dL_law_277 : decode cL_law 277 = .ok (.invokevirtual 17, 3) := by decide +kernel
theorem dL_law_280 : decode cL_law 280 = .ok (.if_icmp .eq 1156, 3) := by decide +kernel
theorem dL_law_283 : decode cL_law 283 = .ok (.iconst 0, 1) := by decide +kernel
theorem dL_law_284 : decode cL_law 284 = .ok (.ireturn, 1) := by decide +kernel
theorem dL_law_285 : decode cL_law 285 = .ok (.aload_n 1, 1) := by decide +kernel
theorem dL_law_286 : decode cL_law 286 = .ok (.aload_n 0, 1) := by decide +kernel
theorem dL_law_287 : decode cL_law 287 = .ok (.iload_n 3, 1) := by decide +kernel
theorem dL_law_288 : decode cL_law 288 = .ok (.iconst 1, 1) := by decide +kernel
theorem dL_law_289 : decode cL_law 289 = .ok (.iadd, 1) := by decide +kernel
theorem dL_law_290 : decode cL_law 290 = .ok (.iaload, 1) := by decide +kernel
theorem dL_law_291 : decode cL_law 291 = .ok (.aload_n 0, 1) := by decide +kernel
theorem dL_law_292 : decode cL_law 292 = .ok (.iload_n 3, 1) := by decide +kernel
theorem dL_law_293 : decode cL_law 293 = .ok (.iconst 2, 1) := by decide +kernel
theorem dL_law_294 : decode cL_law 294 = .ok (.iadd, 1) := by decide +kernel
theorem dL_law_295 : decode cL_law 295 = .ok (.iaload, 1) := by decide +kernel
theorem dL_law_296 : decode cL_law 296 = .ok (.invokevirtual 18, 3) := by decide +kernel
theorem dL_law_299 : decode cL_law 299 = .ok (.aload_n 2, 1) := by decide +kernel
theorem dL_law_300 : decode cL_law 300 = .ok (.aload_n 0, 1) := by decide +kernel
theorem dL_law_301 : decode cL_law 301 = .ok (.iload_n 3, 1) := by decide +kernel
theorem dL_law_302 : decode cL_law 302 = .ok (.iconst 1, 1) := by decide +kernel
theorem dL_law_303 : decode cL_law 303 = .ok (.iadd, 1) := by decide +kernel
theorem dL_law_304 : decode cL_law 304 = .ok (.iaload, 1) := by decide +kernel
theorem dL_law_305 : decode cL_law 305 = .ok (.aload_n 0, 1) := by decide +kernel
theorem dL_law_306 : decode cL_law 306 = .ok (.iload_n 3, 1) := by decide +kernel
theorem dL_law_307 : decode cL_law 307 = .ok (.iconst 2, 1) := by decide +kernel
theorem dL_law_308 : decode cL_law 308 = .ok (.iadd, 1) := by decide +kernel
theorem dL_law_309 : decode cL_law 309 = .ok (.iaload, 1) := by decide +kernel
theorem dL_law_310 : decode cL_law 310 = .ok (.invokevirtual 21, 3) := by decide +kernel
theorem dL_law_313 : decode cL_law 313 = .ok (.if_icmp .eq 1123, 3) := by decide +kernel
theorem dL_law_316 : decode cL_law 316 = .ok (.iconst 0, 1) := by decide +kernel
theorem dL_law_317 : decode cL_law 317 = .ok (.ireturn, 1) := by decide +kernel
theorem dL_law_318 : decode cL_law 318 = .ok (.aload_n 1, 1) := by decide +kernel
theorem dL_law_319 : decode cL_law 319 = .ok (.aload_n 0, 1) := by decide +kernel
theorem dL_law_320 : decode cL_law 320 = .ok (.iload_n 3, 1) := by decide +kernel
theorem dL_law_321 : decode cL_law 321 = .ok (.iconst 1, 1) := by decide +kernel
theorem dL_law_322 : decode cL_law 322 = .ok (.iadd, 1) := by decide +kernel
theorem dL_law_323 : decode cL_law 323 = .ok (.iaload, 1) := by decide +kernel
theorem dL_law_324 : decode cL_law 324 = .ok (.aload_n 0, 1) := by decide +kernel
theorem dL_law_325 : decode cL_law 325 = .ok (.iload_n 3, 1) := by decide +kernel
theorem dL_law_326 : decode cL_law 326 = .ok (.iconst 2, 1) := by decide +kernel
theorem dL_law_327 : decode cL_law 327 = .ok (.iadd, 1) := by decide +kernel
theorem dL_law_328 : decode cL_law 328 = .ok (.iaload, 1) := by decide +kernel
theorem dL_law_329 : decode cL_law 329 = .ok (.invokevirtual 22, 3) := by decide +kernel
theorem dL_law_332 : decode cL_law 332 = .ok (.aload_n 2, 1) := by decide +kernel
theorem dL_law_333 : decode cL_law 333 = .ok (.aload_n 0, 1) := by decide +kernel
theorem dL_law_334 : decode cL_law 334 = .ok (.iload_n 3, 1) := by decide +kernel
theorem dL_law_335 : decode cL_law 335 = .ok (.iconst 1, 1) := by decide +kernel
theorem dL_law_336 : decode cL_law 336 = .ok (.iadd, 1) := by decide +kernel
theorem dL_law_337 : decode cL_law 337 = .ok (.iaload, 1) := by decide +kernel
theorem dL_law_338 : decode cL_law 338 = .ok (.aload_n 0, 1) := by decide +kernel
theorem dL_law_339 : decode cL_law 339 = .ok (.iload_n 3, 1) := by decide +kernel
theorem dL_law_340 : decode cL_law 340 = .ok (.iconst 2, 1) := by decide +kernel
theorem dL_law_341 : decode cL_law 341 = .ok (.iadd, 1) := by decide +kernel
theorem dL_law_342 : decode cL_law 342 = .ok (.iaload, 1) := by decide +kernel
theorem dL_law_343 : decode cL_law 343 = .ok (.invokevirtual 25, 3) := by decide +kernel
theorem dL_law_346 : decode cL_law 346 = .ok (.if_icmp .eq 1090, 3) := by decide +kernel
theorem dL_law_349 : decode cL_law 349 = .ok (.iconst 0, 1) := by decide +kernel
theorem dL_law_350 : decode cL_law 350 = .ok (.ireturn, 1) := by decide +kernel
theorem dL_law_351 : decode cL_law 351 = .ok (.aload_n 1, 1) := by decide +kernel
theorem dL_law_352 : decode cL_law 352 = .ok (.invokevirtual 26, 3) := by decide +kernel
theorem dL_law_355 : decode cL_law 355 = .ok (.aload_n 2, 1) := by decide +kernel
theorem dL_law_356 : decode cL_law 356 = .ok (.invokevirtual 30, 3) := by decide +kernel
theorem dL_law_359 : decode cL_law 359 = .ok (.if_icmp .eq 1077, 3) := by decide +kernel
theorem dL_law_362 : decode cL_law 362 = .ok (.iconst 0, 1) := by decide +kernel
theorem dL_law_363 : decode cL_law 363 = .ok (.ireturn, 1) := by decide +kernel
theorem dL_law_364 : decode cL_law 364 = .ok (.aload_n 1, 1) := by decide +kernel
theorem dL_law_365 : decode cL_law 365 = .ok (.invokevirtual 31, 3) := by decide +kernel
theorem dL_law_368 : decode cL_law 368 = .ok (.aload_n 2, 1) := by decide +kernel
theorem dL_law_369 : decode cL_law 369 = .ok (.invokevirtual 34, 3) := by decide +kernel
theorem dL_law_372 : decode cL_law 372 = .ok (.if_icmp .eq 1064, 3) := by decide +kernel
theorem dL_law_375 : decode cL_law 375 = .ok (.iconst 0, 1) := by decide +kernel
theorem dL_law_376 : decode cL_law 376 = .ok (.ireturn, 1) := by decide +kernel
theorem dL_law_377 : decode cL_law 377 = .ok (.aload_n 1, 1) := by decide +kernel
theorem dL_law_378 : decode cL_law 378 = .ok (.aload_n 0, 1) := by decide +kernel
theorem dL_law_379 : decode cL_law 379 = .ok (.iload_n 3, 1) := by decide +kernel
theorem dL_law_380 : decode cL_law 380 = .ok (.iconst 1, 1) := by decide +kernel
theorem dL_law_381 : decode cL_law 381 = .ok (.iadd, 1) := by decide +kernel
theorem dL_law_382 : decode cL_law 382 = .ok (.iaload, 1) := by decide +kernel
theorem dL_law_383 : decode cL_law 383 = .ok (.aload_n 0, 1) := by decide +kernel
theorem dL_law_384 : decode cL_law 384 = .ok (.iload_n 3, 1) := by decide +kernel
theorem dL_law_385 : decode cL_law 385 = .ok (.iconst 2, 1) := by decide +kernel
theorem dL_law_386 : decode cL_law 386 = .ok (.iadd, 1) := by decide +kernel
theorem dL_law_387 : decode cL_law 387 = .ok (.iaload, 1) := by decide +kernel
theorem dL_law_388 : decode cL_law 388 = .ok (.aload_n 0, 1) := by decide +kernel
theorem dL_law_389 : decode cL_law 389 = .ok (.iload_n 3, 1) := by decide +kernel
theorem dL_law_390 : decode cL_law 390 = .ok (.iconst 3, 1) := by decide +kernel
theorem dL_law_391 : decode cL_law 391 = .ok (.iadd, 1) := by decide +kernel
theorem dL_law_392 : decode cL_law 392 = .ok (.iaload, 1) := by decide +kernel
theorem dL_law_393 : decode cL_law 393 = .ok (.invokevirtual 35, 3) := by decide +kernel
theorem dL_law_396 : decode cL_law 396 = .ok (.aload_n 2, 1) := by decide +kernel
theorem dL_law_397 : decode cL_law 397 = .ok (.aload_n 0, 1) := by decide +kernel
theorem dL_law_398 : decode cL_law 398 = .ok (.iload_n 3, 1) := by decide +kernel
theorem dL_law_399 : decode cL_law 399 = .ok (.iconst 1, 1) := by decide +kernel
theorem dL_law_400 : decode cL_law 400 = .ok (.iadd, 1) := by decide +kernel
theorem dL_law_401 : decode cL_law 401 = .ok (.iaload, 1) := by decide +kernel
theorem dL_law_402 : decode cL_law 402 = .ok (.aload_n 0, 1) := by decide +kernel
theorem dL_law_403 : decode cL_law 403 = .ok (.iload_n 3, 1) := by decide +kernel
theorem dL_law_404 : decode cL_law 404 = .ok (.iconst 2, 1) := by decide +kernel
theorem dL_law_405 : decode cL_law 405 = .ok (.iadd, 1) := by decide +kernel
theorem dL_law_406 : decode cL_law 406 = .ok (.iaload, 1) := by decide +kernel
theorem dL_law_407 : decode cL_law 407 = .ok (.aload_n 0, 1) := by decide +kernel
theorem dL_law_408 : decode cL_law 408 = .ok (.iload_n 3, 1) := by decide +kernel
theorem dL_law_409 : decode cL_law 409 = .ok (.iconst 3, 1) := by decide +kernel
theorem dL_law_410 : decode cL_law 410 = .ok (.iadd, 1) := by decide +kernel
theorem dL_law_411 : decode cL_law 411 = .ok (.iaload, 1) := by decide +kernel
theorem dL_law_412 : decode cL_law 412 = .ok (.invokevirtual 39, 3) := by decide +kernel
theorem dL_law_415 : decode cL_law 415 = .ok (.if_icmp .eq 1021, 3) := by decide +kernel
theorem dL_law_418 : decode cL_law 418 = .ok (.iconst 0, 1) := by decide +kernel
theorem dL_law_419 : decode cL_law 419 = .ok (.ireturn, 1) := by decide +kernel
theorem dL_law_420 : decode cL_law 420 = .ok (.aload_n 1, 1) := by decide +kernel
theorem dL_law_421 : decode cL_law 421 = .ok (.aload_n 0, 1) := by decide +kernel
theorem dL_law_422 : decode cL_law 422 = .ok (.iload_n 3, 1) := by decide +kernel
theorem dL_law_423 : decode cL_law 423 = .ok (.iconst 1, 1) := by decide +kernel
theorem dL_law_424 : decode cL_law 424 = .ok (.iadd, 1) := by decide +kernel
theorem dL_law_425 : decode cL_law 425 = .ok (.iaload, 1) := by decide +kernel
theorem dL_law_426 : decode cL_law 426 = .ok (.invokevirtual 40, 3) := by decide +kernel
theorem dL_law_429 : decode cL_law 429 = .ok (.aload_n 2, 1) := by decide +kernel
theorem dL_law_430 : decode cL_law 430 = .ok (.aload_n 0, 1) := by decide +kernel
theorem dL_law_431 : decode cL_law 431 = .ok (.iload_n 3, 1) := by decide +kernel
theorem dL_law_432 : decode cL_law 432 = .ok (.iconst 1, 1) := by decide +kernel
theorem dL_law_433 : decode cL_law 433 = .ok (.iadd, 1) := by decide +kernel
theorem dL_law_434 : decode cL_law 434 = .ok (.iaload, 1) := by decide +kernel
theorem dL_law_435 : decode cL_law 435 = .ok (.invokevirtual 44, 3) := by decide +kernel
theorem dL_law_438 : decode cL_law 438 = .ok (.if_icmp .eq 998, 3) := by decide +kernel
theorem dL_law_441 : decode cL_law 441 = .ok (.iconst 0, 1) := by decide +kernel
theorem dL_law_442 : decode cL_law 442 = .ok (.ireturn, 1) := by decide +kernel
theorem dL_law_443 : decode cL_law 443 = .ok (.aload_n 1, 1) := by decide +kernel
theorem dL_law_444 : decode cL_law 444 = .ok (.aload_n 0, 1) := by decide +kernel
theorem dL_law_445 : decode cL_law 445 = .ok (.iload_n 3, 1) := by decide +kernel
theorem dL_law_446 : decode cL_law 446 = .ok (.iconst 1, 1) := by decide +kernel
theorem dL_law_447 : decode cL_law 447 = .ok (.iadd, 1) := by decide +kernel
theorem dL_law_448 : decode cL_law 448 = .ok (.iaload, 1) := by decide +kernel
theorem dL_law_449 : decode cL_law 449 = .ok (.aload_n 0, 1) := by decide +kernel
theorem dL_law_450 : decode cL_law 450 = .ok (.iload_n 3, 1) := by decide +kernel
theorem dL_law_451 : decode cL_law 451 = .ok (.iconst 2, 1) := by decide +kernel
theorem dL_law_452 : decode cL_law 452 = .ok (.iadd, 1) := by decide +kernel
theorem dL_law_453 : decode cL_law 453 = .ok (.iaload, 1) := by decide +kernel
theorem dL_law_454 : decode cL_law 454 = .ok (.invokevirtual 45, 3) := by decide +kernel
theorem dL_law_457 : decode cL_law 457 = .ok (.aload_n 2, 1) := by decide +kernel
theorem dL_law_458 : decode cL_law 458 = .ok (.aload_n 0, 1) := by decide +kernel
theorem dL_law_459 : decode cL_law 459 = .ok (.iload_n 3, 1) := by decide +kernel
theorem dL_law_460 : decode cL_law 460 = .ok (.iconst 1, 1) := by decide +kernel
theorem dL_law_461 : decode cL_law 461 = .ok (.iadd, 1) := by decide +kernel
theorem dL_law_462 : decode cL_law 462 = .ok (.iaload, 1) := by decide +kernel
theorem dL_law_463 : decode cL_law 463 = .ok (.aload_n 0, 1) := by decide +kernel
theorem dL_law_464 : decode cL_law 464 = .ok (.iload_n 3, 1) := by decide +kernel
theorem dL_law_465 : decode cL_law 465 = .ok (.iconst 2, 1) := by decide +kernel
theorem dL_law_466 : decode cL_law 466 = .ok (.iadd, 1) := by decide +kernel
theorem dL_law_467 : decode cL_law 467 = .ok (.iaload, 1) := by decide +kernel
theorem dL_law_468 : decode cL_law 468 = .ok (.invokevirtual 48, 3) := by decide +kernel
theorem dL_law_471 : decode cL_law 471 = .ok (.if_icmp .eq 965, 3) := by decide +kernel
theorem dL_law_474 : decode cL_law 474 = .ok (.iconst 0, 1) := by decide +kernel
theorem dL_law_475 : decode cL_law 475 = .ok (.ireturn, 1) := by decide +kernel
theorem dL_law_476 : decode cL_law 476 = .ok (.aload_n 1, 1) := by decide +kernel
theorem dL_law_477 : decode cL_law 477 = .ok (.invokevirtual 49, 3) := by decide +kernel
theorem dL_law_480 : decode cL_law 480 = .ok (.aload_n 2, 1) := by decide +kernel
theorem dL_law_481 : decode cL_law 481 = .ok (.invokevirtual 52, 3) := by decide +kernel
theorem dL_law_484 : decode cL_law 484 = .ok (.if_icmp .eq 952, 3) := by decide +kernel
theorem dL_law_487 : decode cL_law 487 = .ok (.iconst 0, 1) := by decide +kernel
theorem dL_law_488 : decode cL_law 488 = .ok (.ireturn, 1) := by decide +kernel
theorem dL_law_489 : decode cL_law 489 = .ok (.aload_n 1, 1) := by decide +kernel
theorem dL_law_490 : decode cL_law 490 = .ok (.invokevirtual 53, 3) := by decide +kernel
theorem dL_law_493 : decode cL_law 493 = .ok (.aload_n 2, 1) := by decide +kernel
theorem dL_law_494 : decode cL_law 494 = .ok (.invokevirtual 56, 3) := by decide +kernel
theorem dL_law_497 : decode cL_law 497 = .ok (.if_icmp .eq 939, 3) := by decide +kernel
theorem dL_law_500 : decode cL_law 500 = .ok (.iconst 0, 1) := by decide +kernel
theorem dL_law_501 : decode cL_law 501 = .ok (.ireturn, 1) := by decide +kernel
theorem dL_law_502 : decode cL_law 502 = .ok (.aload_n 1, 1) := by decide +kernel
theorem dL_law_503 : decode cL_law 503 = .ok (.invokevirtual 57, 3) := by decide +kernel
theorem dL_law_506 : decode cL_law 506 = .ok (.aload_n 2, 1) := by decide +kernel
theorem dL_law_507 : decode cL_law 507 = .ok (.invokevirtual 60, 3) := by decide +kernel
theorem dL_law_510 : decode cL_law 510 = .ok (.if_icmp .eq 926, 3) := by decide +kernel
theorem dL_law_513 : decode cL_law 513 = .ok (.iconst 0, 1) := by decide +kernel
theorem dL_law_514 : decode cL_law 514 = .ok (.ireturn, 1) := by decide +kernel
theorem dL_law_515 : decode cL_law 515 = .ok (.aload_n 1, 1) := by decide +kernel
theorem dL_law_516 : decode cL_law 516 = .ok (.aload_n 0, 1) := by decide +kernel
theorem dL_law_517 : decode cL_law 517 = .ok (.iload_n 3, 1) := by decide +kernel
theorem dL_law_518 : decode cL_law 518 = .ok (.iconst 1, 1) := by decide +kernel
theorem dL_law_519 : decode cL_law 519 = .ok (.iadd, 1) := by decide +kernel
theorem dL_law_520 : decode cL_law 520 = .ok (.iaload, 1) := by decide +kernel
theorem dL_law_521 : decode cL_law 521 = .ok (.invokevirtual 61, 3) := by decide +kernel
theorem dL_law_524 : decode cL_law 524 = .ok (.aload_n 2, 1) := by decide +kernel
theorem dL_law_525 : decode cL_law 525 = .ok (.aload_n 0, 1) := by decide +kernel
theorem dL_law_526 : decode cL_law 526 = .ok (.iload_n 3, 1) := by decide +kernel
theorem dL_law_527 : decode cL_law 527 = .ok (.iconst 1, 1) := by decide +kernel
theorem dL_law_528 : decode cL_law 528 = .ok (.iadd, 1) := by decide +kernel
theorem dL_law_529 : decode cL_law 529 = .ok (.iaload, 1) := by decide +kernel
theorem dL_law_530 : decode cL_law 530 = .ok (.invokevirtual 64, 3) := by decide +kernel
theorem dL_law_533 : decode cL_law 533 = .ok (.if_icmp .eq 903, 3) := by decide +kernel
theorem dL_law_536 : decode cL_law 536 = .ok (.iconst 0, 1) := by decide +kernel
theorem dL_law_537 : decode cL_law 537 = .ok (.ireturn, 1) := by decide +kernel
theorem dL_law_538 : decode cL_law 538 = .ok (.aload_n 1, 1) := by decide +kernel
theorem dL_law_539 : decode cL_law 539 = .ok (.aload_n 0, 1) := by decide +kernel
theorem dL_law_540 : decode cL_law 540 = .ok (.iload_n 3, 1) := by decide +kernel
theorem dL_law_541 : decode cL_law 541 = .ok (.iconst 1, 1) := by decide +kernel
theorem dL_law_542 : decode cL_law 542 = .ok (.iadd, 1) := by decide +kernel
theorem dL_law_543 : decode cL_law 543 = .ok (.iaload, 1) := by decide +kernel
theorem dL_law_544 : decode cL_law 544 = .ok (.invokevirtual 65, 3) := by decide +kernel
theorem dL_law_547 : decode cL_law 547 = .ok (.aload_n 2, 1) := by decide +kernel
theorem dL_law_548 : decode cL_law 548 = .ok (.aload_n 0, 1) := by decide +kernel
theorem dL_law_549 : decode cL_law 549 = .ok (.iload_n 3, 1) := by decide +kernel
theorem dL_law_550 : decode cL_law 550 = .ok (.iconst 1, 1) := by decide +kernel
theorem dL_law_551 : decode cL_law 551 = .ok (.iadd, 1) := by decide +kernel
theorem dL_law_552 : decode cL_law 552 = .ok (.iaload, 1) := by decide +kernel
theorem dL_law_553 : decode cL_law 553 = .ok (.invokevirtual 68, 3) := by decide +kernel
theorem dL_law_556 : decode cL_law 556 = .ok (.if_icmp .eq 880, 3) := by decide +kernel
theorem dL_law_559 : decode cL_law 559 = .ok (.iconst 0, 1) := by decide +kernel
theorem dL_law_560 : decode cL_law 560 = .ok (.ireturn, 1) := by decide +kernel
theorem dL_law_561 : decode cL_law 561 = .ok (.aload_n 1, 1) := by decide +kernel
theorem dL_law_562 : decode cL_law 562 = .ok (.aload_n 0, 1) := by decide +kernel
theorem dL_law_563 : decode cL_law 563 = .ok (.iload_n 3, 1) := by decide +kernel
theorem dL_law_564 : decode cL_law 564 = .ok (.iconst 1, 1) := by decide +kernel
theorem dL_law_565 : decode cL_law 565 = .ok (.iadd, 1) := by decide +kernel
theorem dL_law_566 : decode cL_law 566 = .ok (.iaload, 1) := by decide +kernel
theorem dL_law_567 : decode cL_law 567 = .ok (.invokevirtual 69, 3) := by decide +kernel
theorem dL_law_570 : decode cL_law 570 = .ok (.aload_n 2, 1) := by decide +kernel
theorem dL_law_571 : decode cL_law 571 = .ok (.aload_n 0, 1) := by decide +kernel
theorem dL_law_572 : decode cL_law 572 = .ok (.iload_n 3, 1) := by decide +kernel
theorem dL_law_573 : decode cL_law 573 = .ok (.iconst 1, 1) := by decide +kernel
theorem dL_law_574 : decode cL_law 574 = .ok (.iadd, 1) := by decide +kernel
theorem dL_law_575 : decode cL_law 575 = .ok (.iaload, 1) := by decide +kernel
theorem dL_law_576 : decode cL_law 576 = .ok (.invokevirtual 72, 3) := by decide +kernel
theorem dL_law_579 : decode cL_law 579 = .ok (.if_icmp .eq 857, 3) := by decide +kernel
theorem dL_law_582 : decode cL_law 582 = .ok (.iconst 0, 1) := by decide +kernel
theorem dL_law_583 : decode cL_law 583 = .ok (.ireturn, 1) := by decide +kernel
theorem dL_law_584 : decode cL_law 584 = .ok (.aload_n 1, 1) := by decide +kernel
theorem dL_law_585 : decode cL_law 585 = .ok (.aload_n 0, 1) := by decide +kernel
theorem dL_law_586 : decode cL_law 586 = .ok (.iload_n 3, 1) := by decide +kernel
theorem dL_law_587 : decode cL_law 587 = .ok (.iconst 1, 1) := by decide +kernel
theorem dL_law_588 : decode cL_law 588 = .ok (.iadd, 1) := by decide +kernel
theorem dL_law_589 : decode cL_law 589 = .ok (.iaload, 1) := by decide +kernel
theorem dL_law_590 : decode cL_law 590 = .ok (.aload_n 0, 1) := by decide +kernel
theorem dL_law_591 : decode cL_law 591 = .ok (.iload_n 3, 1) := by decide +kernel
theorem dL_law_592 : decode cL_law 592 = .ok (.iconst 2, 1) := by decide +kernel
theorem dL_law_593 : decode cL_law 593 = .ok (.iadd, 1) := by decide +kernel
theorem dL_law_594 : decode cL_law 594 = .ok (.iaload, 1) := by decide +kernel
theorem dL_law_595 : decode cL_law 595 = .ok (.invokevirtual 73, 3) := by decide +kernel
theorem dL_law_598 : decode cL_law 598 = .ok (.aload_n 2, 1) := by decide +kernel
theorem dL_law_599 : decode cL_law 599 = .ok (.aload_n 0, 1) := by decide +kernel
theorem dL_law_600 : decode cL_law 600 = .ok (.iload_n 3, 1) := by decide +kernel
theorem dL_law_601 : decode cL_law 601 = .ok (.iconst 1, 1) := by decide +kernel
theorem dL_law_602 : decode cL_law 602 = .ok (.iadd, 1) := by decide +kernel
theorem dL_law_603 : decode cL_law 603 = .ok (.iaload, 1) := by decide +kernel
theorem dL_law_604 : decode cL_law 604 = .ok (.aload_n 0, 1) := by decide +kernel
theorem dL_law_605 : decode cL_law 605 = .ok (.iload_n 3, 1) := by decide +kernel
theorem dL_law_606 : decode cL_law 606 = .ok (.iconst 2, 1) := by decide +kernel
theorem dL_law_607 : decode cL_law 607 = .ok (.iadd, 1) := by decide +kernel
theorem dL_law_608 : decode cL_law 608 = .ok (.iaload, 1) := by decide +kernel
theorem dL_law_609 : decode cL_law 609 = .ok (.invokevirtual 76, 3) := by decide +kernel
theorem dL_law_612 : decode cL_law 612 = .ok (.if_icmp .eq 824, 3) := by decide +kernel
theorem dL_law_615 : decode cL_law 615 = .ok (.iconst 0, 1) := by decide +kernel
theorem dL_law_616 : decode cL_law 616 = .ok (.ireturn, 1) := by decide +kernel
theorem dL_law_617 : decode cL_law 617 = .ok (.aload_n 1, 1) := by decide +kernel
theorem dL_law_618 : decode cL_law 618 = .ok (.aload_n 0, 1) := by decide +kernel
theorem dL_law_619 : decode cL_law 619 = .ok (.iload_n 3, 1) := by decide +kernel
theorem dL_law_620 : decode cL_law 620 = .ok (.iconst 1, 1) := by decide +kernel
theorem dL_law_621 : decode cL_law 621 = .ok (.iadd, 1) := by decide +kernel
theorem dL_law_622 : decode cL_law 622 = .ok (.iaload, 1) := by decide +kernel
theorem dL_law_623 : decode cL_law 623 = .ok (.invokevirtual 77, 3) := by decide +kernel
theorem dL_law_626 : decode cL_law 626 = .ok (.aload_n 2, 1) := by decide +kernel
theorem dL_law_627 : decode cL_law 627 = .ok (.aload_n 0, 1) := by decide +kernel
theorem dL_law_628 : decode cL_law 628 = .ok (.iload_n 3, 1) := by decide +kernel
theorem dL_law_629 : decode cL_law 629 = .ok (.iconst 1, 1) := by decide +kernel
theorem dL_law_630 : decode cL_law 630 = .ok (.iadd, 1) := by decide +kernel
theorem dL_law_631 : decode cL_law 631 = .ok (.iaload, 1) := by decide +kernel
theorem dL_law_632 : decode cL_law 632 = .ok (.invokevirtual 80, 3) := by decide +kernel
theorem dL_law_635 : decode cL_law 635 = .ok (.if_icmp .eq 801, 3) := by decide +kernel
theorem dL_law_638 : decode cL_law 638 = .ok (.iconst 0, 1) := by decide +kernel
theorem dL_law_639 : decode cL_law 639 = .ok (.ireturn, 1) := by decide +kernel
theorem dL_law_640 : decode cL_law 640 = .ok (.aload_n 1, 1) := by decide +kernel
theorem dL_law_641 : decode cL_law 641 = .ok (.aload_n 0, 1) := by decide +kernel
theorem dL_law_642 : decode cL_law 642 = .ok (.iload_n 3, 1) := by decide +kernel
theorem dL_law_643 : decode cL_law 643 = .ok (.iconst 1, 1) := by decide +kernel
theorem dL_law_644 : decode cL_law 644 = .ok (.iadd, 1) := by decide +kernel
theorem dL_law_645 : decode cL_law 645 = .ok (.iaload, 1) := by decide +kernel
theorem dL_law_646 : decode cL_law 646 = .ok (.invokevirtual 81, 3) := by decide +kernel
theorem dL_law_649 : decode cL_law 649 = .ok (.aload_n 2, 1) := by decide +kernel
theorem dL_law_650 : decode cL_law 650 = .ok (.aload_n 0, 1) := by decide +kernel
theorem dL_law_651 : decode cL_law 651 = .ok (.iload_n 3, 1) := by decide +kernel
theorem dL_law_652 : decode cL_law 652 = .ok (.iconst 1, 1) := by decide +kernel
theorem dL_law_653 : decode cL_law 653 = .ok (.iadd, 1) := by decide +kernel
theorem dL_law_654 : decode cL_law 654 = .ok (.iaload, 1) := by decide +kernel
theorem dL_law_655 : decode cL_law 655 = .ok (.invokevirtual 84, 3) := by decide +kernel
theorem dL_law_658 : decode cL_law 658 = .ok (.if_icmp .eq 778, 3) := by decide +kernel
theorem dL_law_661 : decode cL_law 661 = .ok (.iconst 0, 1) := by decide +kernel
theorem dL_law_662 : decode cL_law 662 = .ok (.ireturn, 1) := by decide +kernel
theorem dL_law_663 : decode cL_law 663 = .ok (.aload_n 1, 1) := by decide +kernel
theorem dL_law_664 : decode cL_law 664 = .ok (.aload_n 0, 1) := by decide +kernel
theorem dL_law_665 : decode cL_law 665 = .ok (.iload_n 3, 1) := by decide +kernel
theorem dL_law_666 : decode cL_law 666 = .ok (.iconst 1, 1) := by decide +kernel
theorem dL_law_667 : decode cL_law 667 = .ok (.iadd, 1) := by decide +kernel
theorem dL_law_668 : decode cL_law 668 = .ok (.iaload, 1) := by decide +kernel
theorem dL_law_669 : decode cL_law 669 = .ok (.invokevirtual 85, 3) := by decide +kernel
theorem dL_law_672 : decode cL_law 672 = .ok (.aload_n 2, 1) := by decide +kernel
theorem dL_law_673 : decode cL_law 673 = .ok (.aload_n 0, 1) := by decide +kernel
theorem dL_law_674 : decode cL_law 674 = .ok (.iload_n 3, 1) := by decide +kernel
theorem dL_law_675 : decode cL_law 675 = .ok (.iconst 1, 1) := by decide +kernel
theorem dL_law_676 : decode cL_law 676 = .ok (.iadd, 1) := by decide +kernel
theorem dL_law_677 : decode cL_law 677 = .ok (.iaload, 1) := by decide +kernel
theorem dL_law_678 : decode cL_law 678 = .ok (.invokevirtual 88, 3) := by decide +kernel
theorem dL_law_681 : decode cL_law 681 = .ok (.if_icmp .eq 755, 3) := by decide +kernel
theorem dL_law_684 : decode cL_law 684 = .ok (.iconst 0, 1) := by decide +kernel
theorem dL_law_685 : decode cL_law 685 = .ok (.ireturn, 1) := by decide +kernel
theorem dL_law_686 : decode cL_law 686 = .ok (.aload_n 1, 1) := by decide +kernel
theorem dL_law_687 : decode cL_law 687 = .ok (.invokevirtual 89, 3) := by decide +kernel
theorem dL_law_690 : decode cL_law 690 = .ok (.aload_n 2, 1) := by decide +kernel
theorem dL_law_691 : decode cL_law 691 = .ok (.invokevirtual 92, 3) := by decide +kernel
theorem dL_law_694 : decode cL_law 694 = .ok (.if_icmp .eq 742, 3) := by decide +kernel
theorem dL_law_697 : decode cL_law 697 = .ok (.iconst 0, 1) := by decide +kernel
theorem dL_law_698 : decode cL_law 698 = .ok (.ireturn, 1) := by decide +kernel
theorem dL_law_699 : decode cL_law 699 = .ok (.aload_n 1, 1) := by decide +kernel
theorem dL_law_700 : decode cL_law 700 = .ok (.aload_n 0, 1) := by decide +kernel
theorem dL_law_701 : decode cL_law 701 = .ok (.iload_n 3, 1) := by decide +kernel
theorem dL_law_702 : decode cL_law 702 = .ok (.iconst 1, 1) := by decide +kernel
theorem dL_law_703 : decode cL_law 703 = .ok (.iadd, 1) := by decide +kernel
theorem dL_law_704 : decode cL_law 704 = .ok (.iaload, 1) := by decide +kernel
theorem dL_law_705 : decode cL_law 705 = .ok (.invokevirtual 93, 3) := by decide +kernel
theorem dL_law_708 : decode cL_law 708 = .ok (.aload_n 2, 1) := by decide +kernel
theorem dL_law_709 : decode cL_law 709 = .ok (.aload_n 0, 1) := by decide +kernel
theorem dL_law_710 : decode cL_law 710 = .ok (.iload_n 3, 1) := by decide +kernel
theorem dL_law_711 : decode cL_law 711 = .ok (.iconst 1, 1) := by decide +kernel
theorem dL_law_712 : decode cL_law 712 = .ok (.iadd, 1) := by decide +kernel
theorem dL_law_713 : decode cL_law 713 = .ok (.iaload, 1) := by decide +kernel
theorem dL_law_714 : decode cL_law 714 = .ok (.invokevirtual 96, 3) := by decide +kernel
theorem dL_law_717 : decode cL_law 717 = .ok (.if_icmp .eq 719, 3) := by decide +kernel
theorem dL_law_720 : decode cL_law 720 = .ok (.iconst 0, 1) := by decide +kernel
theorem dL_law_721 : decode cL_law 721 = .ok (.ireturn, 1) := by decide +kernel
theorem dL_law_722 : decode cL_law 722 = .ok (.aload_n 1, 1) := by decide +kernel
theorem dL_law_723 : decode cL_law 723 = .ok (.invokevirtual 97, 3) := by decide +kernel
theorem dL_law_726 : decode cL_law 726 = .ok (.aload_n 2, 1) := by decide +kernel
theorem dL_law_727 : decode cL_law 727 = .ok (.invokevirtual 100, 3) := by decide +kernel
theorem dL_law_730 : decode cL_law 730 = .ok (.if_icmp .eq 706, 3) := by decide +kernel
theorem dL_law_733 : decode cL_law 733 = .ok (.iconst 0, 1) := by decide +kernel
theorem dL_law_734 : decode cL_law 734 = .ok (.ireturn, 1) := by decide +kernel
theorem dL_law_735 : decode cL_law 735 = .ok (.aload_n 1, 1) := by decide +kernel
theorem dL_law_736 : decode cL_law 736 = .ok (.invokevirtual 101, 3) := by decide +kernel
theorem dL_law_739 : decode cL_law 739 = .ok (.aload_n 2, 1) := by decide +kernel
theorem dL_law_740 : decode cL_law 740 = .ok (.invokevirtual 104, 3) := by decide +kernel
theorem dL_law_743 : decode cL_law 743 = .ok (.if_icmp .eq 693, 3) := by decide +kernel
theorem dL_law_746 : decode cL_law 746 = .ok (.iconst 0, 1) := by decide +kernel
theorem dL_law_747 : decode cL_law 747 = .ok (.ireturn, 1) := by decide +kernel
theorem dL_law_748 : decode cL_law 748 = .ok (.aload_n 1, 1) := by decide +kernel
theorem dL_law_749 : decode cL_law 749 = .ok (.invokevirtual 105, 3) := by decide +kernel
theorem dL_law_752 : decode cL_law 752 = .ok (.aload_n 2, 1) := by decide +kernel
theorem dL_law_753 : decode cL_law 753 = .ok (.invokevirtual 108, 3) := by decide +kernel
theorem dL_law_756 : decode cL_law 756 = .ok (.if_icmp .eq 680, 3) := by decide +kernel
theorem dL_law_759 : decode cL_law 759 = .ok (.iconst 0, 1) := by decide +kernel
theorem dL_law_760 : decode cL_law 760 = .ok (.ireturn, 1) := by decide +kernel
theorem dL_law_761 : decode cL_law 761 = .ok (.aload_n 1, 1) := by decide +kernel
theorem dL_law_762 : decode cL_law 762 = .ok (.invokevirtual 109, 3) := by decide +kernel
theorem dL_law_765 : decode cL_law 765 = .ok (.aload_n 2, 1) := by decide +kernel
theorem dL_law_766 : decode cL_law 766 = .ok (.invokevirtual 112, 3) := by decide +kernel
theorem dL_law_769 : decode cL_law 769 = .ok (.if_icmp .eq 667, 3) := by decide +kernel
theorem dL_law_772 : decode cL_law 772 = .ok (.iconst 0, 1) := by decide +kernel
theorem dL_law_773 : decode cL_law 773 = .ok (.ireturn, 1) := by decide +kernel
theorem dL_law_774 : decode cL_law 774 = .ok (.aload_n 1, 1) := by decide +kernel
theorem dL_law_775 : decode cL_law 775 = .ok (.aload_n 0, 1) := by decide +kernel
theorem dL_law_776 : decode cL_law 776 = .ok (.iload_n 3, 1) := by decide +kernel
theorem dL_law_777 : decode cL_law 777 = .ok (.iconst 1, 1) := by decide +kernel
theorem dL_law_778 : decode cL_law 778 = .ok (.iadd, 1) := by decide +kernel
theorem dL_law_779 : decode cL_law 779 = .ok (.iaload, 1) := by decide +kernel
theorem dL_law_780 : decode cL_law 780 = .ok (.aload_n 0, 1) := by decide +kernel
theorem dL_law_781 : decode cL_law 781 = .ok (.iload_n 3, 1) := by decide +kernel
theorem dL_law_782 : decode cL_law 782 = .ok (.iconst 2, 1) := by decide +kernel
theorem dL_law_783 : decode cL_law 783 = .ok (.iadd, 1) := by decide +kernel
theorem dL_law_784 : decode cL_law 784 = .ok (.iaload, 1) := by decide +kernel
theorem dL_law_785 : decode cL_law 785 = .ok (.invokevirtual 113, 3) := by decide +kernel
theorem dL_law_788 : decode cL_law 788 = .ok (.aload_n 2, 1) := by decide +kernel
theorem dL_law_789 : decode cL_law 789 = .ok (.aload_n 0, 1) := by decide +kernel
theorem dL_law_790 : decode cL_law 790 = .ok (.iload_n 3, 1) := by decide +kernel
theorem dL_law_791 : decode cL_law 791 = .ok (.iconst 1, 1) := by decide +kernel
theorem dL_law_792 : decode cL_law 792 = .ok (.iadd, 1) := by decide +kernel
theorem dL_law_793 : decode cL_law 793 = .ok (.iaload, 1) := by decide +kernel
theorem dL_law_794 : decode cL_law 794 = .ok (.aload_n 0, 1) := by decide +kernel
theorem dL_law_795 : decode cL_law 795 = .ok (.iload_n 3, 1) := by decide +kernel
theorem dL_law_796 : decode cL_law 796 = .ok (.iconst 2, 1) := by decide +kernel
theorem dL_law_797 : decode cL_law 797 = .ok (.iadd, 1) := by decide +kernel
theorem dL_law_798 : decode cL_law 798 = .ok (.iaload, 1) := by decide +kernel
theorem dL_law_799 : decode cL_law 799 = .ok (.invokevirtual 116, 3) := by decide +kernel
theorem dL_law_802 : decode cL_law 802 = .ok (.if_icmp .eq 634, 3) := by decide +kernel
theorem dL_law_805 : decode cL_law 805 = .ok (.iconst 0, 1) := by decide +kernel
theorem dL_law_806 : decode cL_law 806 = .ok (.ireturn, 1) := by decide +kernel
theorem dL_law_807 : decode cL_law 807 = .ok (.aload_n 1, 1) := by decide +kernel
theorem dL_law_808 : decode cL_law 808 = .ok (.aload_n 0, 1) := by decide +kernel
theorem dL_law_809 : decode cL_law 809 = .ok (.iload_n 3, 1) := by decide +kernel
theorem dL_law_810 : decode cL_law 810 = .ok (.iconst 1, 1) := by decide +kernel
theorem dL_law_811 : decode cL_law 811 = .ok (.iadd, 1) := by decide +kernel
theorem dL_law_812 : decode cL_law 812 = .ok (.iaload, 1) := by decide +kernel
theorem dL_law_813 : decode cL_law 813 = .ok (.invokevirtual 117, 3) := by decide +kernel
theorem dL_law_816 : decode cL_law 816 = .ok (.aload_n 2, 1) := by decide +kernel
theorem dL_law_817 : decode cL_law 817 = .ok (.aload_n 0, 1) := by decide +kernel
theorem dL_law_818 : decode cL_law 818 = .ok (.iload_n 3, 1) := by decide +kernel
theorem dL_law_819 : decode cL_law 819 = .ok (.iconst 1, 1) := by decide +kernel
theorem dL_law_820 : decode cL_law 820 = .ok (.iadd, 1) := by decide +kernel
theorem dL_law_821 : decode cL_law 821 = .ok (.iaload, 1) := by decide +kernel
theorem dL_law_822 : decode cL_law 822 = .ok (.invokevirtual 120, 3) := by decide +kernel
theorem dL_law_825 : decode cL_law 825 = .ok (.if_icmp .eq 611, 3) := by decide +kernel
theorem dL_law_828 : decode cL_law 828 = .ok (.iconst 0, 1) := by decide +kernel
theorem dL_law_829 : decode cL_law 829 = .ok (.ireturn, 1) := by decide +kernel
theorem dL_law_830 : decode cL_law 830 = .ok (.aload_n 1, 1) := by decide +kernel
theorem dL_law_831 : decode cL_law 831 = .ok (.aload_n 0, 1) := by decide +kernel
theorem dL_law_832 : decode cL_law 832 = .ok (.iload_n 3, 1) := by decide +kernel
theorem dL_law_833 : decode cL_law 833 = .ok (.iconst 1, 1) := by decide +kernel
theorem dL_law_834 : decode cL_law 834 = .ok (.iadd, 1) := by decide +kernel
theorem dL_law_835 : decode cL_law 835 = .ok (.iaload, 1) := by decide +kernel
theorem dL_law_836 : decode cL_law 836 = .ok (.invokevirtual 121, 3) := by decide +kernel
theorem dL_law_839 : decode cL_law 839 = .ok (.aload_n 2, 1) := by decide +kernel
theorem dL_law_840 : decode cL_law 840 = .ok (.aload_n 0, 1) := by decide +kernel
theorem dL_law_841 : decode cL_law 841 = .ok (.iload_n 3, 1) := by decide +kernel
theorem dL_law_842 : decode cL_law 842 = .ok (.iconst 1, 1) := by decide +kernel
theorem dL_law_843 : decode cL_law 843 = .ok (.iadd, 1) := by decide +kernel
theorem dL_law_844 : decode cL_law 844 = .ok (.iaload, 1) := by decide +kernel
theorem dL_law_845 : decode cL_law 845 = .ok (.invokevirtual 124, 3) := by decide +kernel
theorem dL_law_848 : decode cL_law 848 = .ok (.if_icmp .eq 588, 3) := by decide +kernel
theorem dL_law_851 : decode cL_law 851 = .ok (.iconst 0, 1) := by decide +kernel
theorem dL_law_852 : decode cL_law 852 = .ok (.ireturn, 1) := by decide +kernel
theorem dL_law_853 : decode cL_law 853 = .ok (.aload_n 1, 1) := by decide +kernel
theorem dL_law_854 : decode cL_law 854 = .ok (.aload_n 0, 1) := by decide +kernel
theorem dL_law_855 : decode cL_law 855 = .ok (.iload_n 3, 1) := by decide +kernel
theorem dL_law_856 : decode cL_law 856 = .ok (.iconst 1, 1) := by decide +kernel
theorem dL_law_857 : decode cL_law 857 = .ok (.iadd, 1) := by decide +kernel
theorem dL_law_858 : decode cL_law 858 = .ok (.iaload, 1) := by decide +kernel
theorem dL_law_859 : decode cL_law 859 = .ok (.aload_n 0, 1) := by decide +kernel
theorem dL_law_860 : decode cL_law 860 = .ok (.iload_n 3, 1) := by decide +kernel
theorem dL_law_861 : decode cL_law 861 = .ok (.iconst 2, 1) := by decide +kernel
theorem dL_law_862 : decode cL_law 862 = .ok (.iadd, 1) := by decide +kernel
theorem dL_law_863 : decode cL_law 863 = .ok (.iaload, 1) := by decide +kernel
theorem dL_law_864 : decode cL_law 864 = .ok (.invokevirtual 125, 3) := by decide +kernel
theorem dL_law_867 : decode cL_law 867 = .ok (.aload_n 2, 1) := by decide +kernel
theorem dL_law_868 : decode cL_law 868 = .ok (.aload_n 0, 1) := by decide +kernel
theorem dL_law_869 : decode cL_law 869 = .ok (.iload_n 3, 1) := by decide +kernel
theorem dL_law_870 : decode cL_law 870 = .ok (.iconst 1, 1) := by decide +kernel
theorem dL_law_871 : decode cL_law 871 = .ok (.iadd, 1) := by decide +kernel
theorem dL_law_872 : decode cL_law 872 = .ok (.iaload, 1) := by decide +kernel
theorem dL_law_873 : decode cL_law 873 = .ok (.aload_n 0, 1) := by decide +kernel
theorem dL_law_874 : decode cL_law 874 = .ok (.iload_n 3, 1) := by decide +kernel
theorem dL_law_875 : decode cL_law 875 = .ok (.iconst 2, 1) := by decide +kernel
theorem dL_law_876 : decode cL_law 876 = .ok (.iadd, 1) := by decide +kernel
theorem dL_law_877 : decode cL_law 877 = .ok (.iaload, 1) := by decide +kernel
theorem dL_law_878 : decode cL_law 878 = .ok (.invokevirtual 128, 3) := by decide +kernel
theorem dL_law_881 : decode cL_law 881 = .ok (.if_icmp .eq 555, 3) := by decide +kernel
theorem dL_law_884 : decode cL_law 884 = .ok (.iconst 0, 1) := by decide +kernel
theorem dL_law_885 : decode cL_law 885 = .ok (.ireturn, 1) := by decide +kernel
theorem dL_law_886 : decode cL_law 886 = .ok (.aload_n 1, 1) := by decide +kernel
theorem dL_law_887 : decode cL_law 887 = .ok (.aload_n 0, 1) := by decide +kernel
theorem dL_law_888 : decode cL_law 888 = .ok (.iload_n 3, 1) := by decide +kernel
theorem dL_law_889 : decode cL_law 889 = .ok (.iconst 1, 1) := by decide +kernel
theorem dL_law_890 : decode cL_law 890 = .ok (.iadd, 1) := by decide +kernel
theorem dL_law_891 : decode cL_law 891 = .ok (.iaload, 1) := by decide +kernel
theorem dL_law_892 : decode cL_law 892 = .ok (.aload_n 0, 1) := by decide +kernel
theorem dL_law_893 : decode cL_law 893 = .ok (.iload_n 3, 1) := by decide +kernel
theorem dL_law_894 : decode cL_law 894 = .ok (.iconst 2, 1) := by decide +kernel
theorem dL_law_895 : decode cL_law 895 = .ok (.iadd, 1) := by decide +kernel
theorem dL_law_896 : decode cL_law 896 = .ok (.iaload, 1) := by decide +kernel
theorem dL_law_897 : decode cL_law 897 = .ok (.aload_n 0, 1) := by decide +kernel
theorem dL_law_898 : decode cL_law 898 = .ok (.iload_n 3, 1) := by decide +kernel
theorem dL_law_899 : decode cL_law 899 = .ok (.iconst 3, 1) := by decide +kernel
theorem dL_law_900 : decode cL_law 900 = .ok (.iadd, 1) := by decide +kernel
theorem dL_law_901 : decode cL_law 901 = .ok (.iaload, 1) := by decide +kernel
theorem dL_law_902 : decode cL_law 902 = .ok (.invokevirtual 129, 3) := by decide +kernel
theorem dL_law_905 : decode cL_law 905 = .ok (.aload_n 2, 1) := by decide +kernel
theorem dL_law_906 : decode cL_law 906 = .ok (.aload_n 0, 1) := by decide +kernel
theorem dL_law_907 : decode cL_law 907 = .ok (.iload_n 3, 1) := by decide +kernel
theorem dL_law_908 : decode cL_law 908 = .ok (.iconst 1, 1) := by decide +kernel
theorem dL_law_909 : decode cL_law 909 = .ok (.iadd, 1) := by decide +kernel
theorem dL_law_910 : decode cL_law 910 = .ok (.iaload, 1) := by decide +kernel
theorem dL_law_911 : decode cL_law 911 = .ok (.aload_n 0, 1) := by decide +kernel
theorem dL_law_912 : decode cL_law 912 = .ok (.iload_n 3, 1) := by decide +kernel
theorem dL_law_913 : decode cL_law 913 = .ok (.iconst 2, 1) := by decide +kernel
theorem dL_law_914 : decode cL_law 914 = .ok (.iadd, 1) := by decide +kernel
theorem dL_law_915 : decode cL_law 915 = .ok (.iaload, 1) := by decide +kernel
theorem dL_law_916 : decode cL_law 916 = .ok (.aload_n 0, 1) := by decide +kernel
theorem dL_law_917 : decode cL_law 917 = .ok (.iload_n 3, 1) := by decide +kernel
theorem dL_law_918 : decode cL_law 918 = .ok (.iconst 3, 1) := by decide +kernel
theorem dL_law_919 : decode cL_law 919 = .ok (.iadd, 1) := by decide +kernel
theorem dL_law_920 : decode cL_law 920 = .ok (.iaload, 1) := by decide +kernel
theorem dL_law_921 : decode cL_law 921 = .ok (.invokevirtual 132, 3) := by decide +kernel
theorem dL_law_924 : decode cL_law 924 = .ok (.if_icmp .eq 512, 3) := by decide +kernel
theorem dL_law_927 : decode cL_law 927 = .ok (.iconst 0, 1) := by decide +kernel
theorem dL_law_928 : decode cL_law 928 = .ok (.ireturn, 1) := by decide +kernel
theorem dL_law_929 : decode cL_law 929 = .ok (.aload_n 1, 1) := by decide +kernel
theorem dL_law_930 : decode cL_law 930 = .ok (.invokevirtual 133, 3) := by decide +kernel
theorem dL_law_933 : decode cL_law 933 = .ok (.aload_n 2, 1) := by decide +kernel
theorem dL_law_934 : decode cL_law 934 = .ok (.invokevirtual 136, 3) := by decide +kernel
theorem dL_law_937 : decode cL_law 937 = .ok (.if_icmp .eq 499, 3) := by decide +kernel
theorem dL_law_940 : decode cL_law 940 = .ok (.iconst 0, 1) := by decide +kernel
theorem dL_law_941 : decode cL_law 941 = .ok (.ireturn, 1) := by decide +kernel
theorem dL_law_942 : decode cL_law 942 = .ok (.aload_n 1, 1) := by decide +kernel
theorem dL_law_943 : decode cL_law 943 = .ok (.invokevirtual 137, 3) := by decide +kernel
theorem dL_law_946 : decode cL_law 946 = .ok (.aload_n 2, 1) := by decide +kernel
theorem dL_law_947 : decode cL_law 947 = .ok (.invokevirtual 140, 3) := by decide +kernel
theorem dL_law_950 : decode cL_law 950 = .ok (.if_icmp .eq 486, 3) := by decide +kernel
theorem dL_law_953 : decode cL_law 953 = .ok (.iconst 0, 1) := by decide +kernel
theorem dL_law_954 : decode cL_law 954 = .ok (.ireturn, 1) := by decide +kernel
theorem dL_law_955 : decode cL_law 955 = .ok (.aload_n 1, 1) := by decide +kernel
theorem dL_law_956 : decode cL_law 956 = .ok (.aload_n 0, 1) := by decide +kernel
theorem dL_law_957 : decode cL_law 957 = .ok (.iload_n 3, 1) := by decide +kernel
theorem dL_law_958 : decode cL_law 958 = .ok (.iconst 1, 1) := by decide +kernel
theorem dL_law_959 : decode cL_law 959 = .ok (.iadd, 1) := by decide +kernel
theorem dL_law_960 : decode cL_law 960 = .ok (.iaload, 1) := by decide +kernel
theorem dL_law_961 : decode cL_law 961 = .ok (.invokevirtual 141, 3) := by decide +kernel
theorem dL_law_964 : decode cL_law 964 = .ok (.aload_n 2, 1) := by decide +kernel
theorem dL_law_965 : decode cL_law 965 = .ok (.aload_n 0, 1) := by decide +kernel
theorem dL_law_966 : decode cL_law 966 = .ok (.iload_n 3, 1) := by decide +kernel
theorem dL_law_967 : decode cL_law 967 = .ok (.iconst 1, 1) := by decide +kernel
theorem dL_law_968 : decode cL_law 968 = .ok (.iadd, 1) := by decide +kernel
theorem dL_law_969 : decode cL_law 969 = .ok (.iaload, 1) := by decide +kernel
theorem dL_law_970 : decode cL_law 970 = .ok (.invokevirtual 144, 3) := by decide +kernel
theorem dL_law_973 : decode cL_law 973 = .ok (.if_icmp .eq 463, 3) := by decide +kernel
theorem dL_law_976 : decode cL_law 976 = .ok (.iconst 0, 1) := by decide +kernel
theorem dL_law_977 : decode cL_law 977 = .ok (.ireturn, 1) := by decide +kernel
theorem dL_law_978 : decode cL_law 978 = .ok (.aload_n 1, 1) := by decide +kernel
theorem dL_law_979 : decode cL_law 979 = .ok (.aload_n 0, 1) := by decide +kernel
theorem dL_law_980 : decode cL_law 980 = .ok (.iload_n 3, 1) := by decide +kernel
theorem dL_law_981 : decode cL_law 981 = .ok (.iconst 1, 1) := by decide +kernel
theorem dL_law_982 : decode cL_law 982 = .ok (.iadd, 1) := by decide +kernel
theorem dL_law_983 : decode cL_law 983 = .ok (.iaload, 1) := by decide +kernel
theorem dL_law_984 : decode cL_law 984 = .ok (.invokevirtual 145, 3) := by decide +kernel
theorem dL_law_987 : decode cL_law 987 = .ok (.aload_n 2, 1) := by decide +kernel
theorem dL_law_988 : decode cL_law 988 = .ok (.aload_n 0, 1) := by decide +kernel
theorem dL_law_989 : decode cL_law 989 = .ok (.iload_n 3, 1) := by decide +kernel
theorem dL_law_990 : decode cL_law 990 = .ok (.iconst 1, 1) := by decide +kernel
theorem dL_law_991 : decode cL_law 991 = .ok (.iadd, 1) := by decide +kernel
theorem dL_law_992 : decode cL_law 992 = .ok (.iaload, 1) := by decide +kernel
theorem dL_law_993 : decode cL_law 993 = .ok (.invokevirtual 148, 3) := by decide +kernel
theorem dL_law_996 : decode cL_law 996 = .ok (.if_icmp .eq 440, 3) := by decide +kernel
theorem dL_law_999 : decode cL_law 999 = .ok (.iconst 0, 1) := by decide +kernel
theorem dL_law_1000 : decode cL_law 1000 = .ok (.ireturn, 1) := by decide +kernel
theorem dL_law_1001 : decode cL_law 1001 = .ok (.aload_n 1, 1) := by decide +kernel
theorem dL_law_1002 : decode cL_law 1002 = .ok (.aload_n 0, 1) := by decide +kernel
theorem dL_law_1003 : decode cL_law 1003 = .ok (.iload_n 3, 1) := by decide +kernel
theorem dL_law_1004 : decode cL_law 1004 = .ok (.iconst 1, 1) := by decide +kernel
theorem dL_law_1005 : decode cL_law 1005 = .ok (.iadd, 1) := by decide +kernel
theorem dL_law_1006 : decode cL_law 1006 = .ok (.iaload, 1) := by decide +kernel
theorem dL_law_1007 : decode cL_law 1007 = .ok (.invokevirtual 149, 3) := by decide +kernel
theorem dL_law_1010 : decode cL_law 1010 = .ok (.aload_n 2, 1) := by decide +kernel
theorem dL_law_1011 : decode cL_law 1011 = .ok (.aload_n 0, 1) := by decide +kernel
theorem dL_law_1012 : decode cL_law 1012 = .ok (.iload_n 3, 1) := by decide +kernel
theorem dL_law_1013 : decode cL_law 1013 = .ok (.iconst 1, 1) := by decide +kernel
theorem dL_law_1014 : decode cL_law 1014 = .ok (.iadd, 1) := by decide +kernel
theorem dL_law_1015 : decode cL_law 1015 = .ok (.iaload, 1) := by decide +kernel
theorem dL_law_1016 : decode cL_law 1016 = .ok (.invokevirtual 152, 3) := by decide +kernel
theorem dL_law_1019 : decode cL_law 1019 = .ok (.if_icmp .eq 417, 3) := by decide +kernel
theorem dL_law_1022 : decode cL_law 1022 = .ok (.iconst 0, 1) := by decide +kernel
theorem dL_law_1023 : decode cL_law 1023 = .ok (.ireturn, 1) := by decide +kernel
theorem dL_law_1024 : decode cL_law 1024 = .ok (.aload_n 1, 1) := by decide +kernel
theorem dL_law_1025 : decode cL_law 1025 = .ok (.aload_n 0, 1) := by decide +kernel
theorem dL_law_1026 : decode cL_law 1026 = .ok (.iload_n 3, 1) := by decide +kernel
theorem dL_law_1027 : decode cL_law 1027 = .ok (.iconst 1, 1) := by decide +kernel
theorem dL_law_1028 : decode cL_law 1028 = .ok (.iadd, 1) := by decide +kernel
theorem dL_law_1029 : decode cL_law 1029 = .ok (.iaload, 1) := by decide +kernel
theorem dL_law_1030 : decode cL_law 1030 = .ok (.invokevirtual 153, 3) := by decide +kernel
theorem dL_law_1033 : decode cL_law 1033 = .ok (.aload_n 2, 1) := by decide +kernel
theorem dL_law_1034 : decode cL_law 1034 = .ok (.aload_n 0, 1) := by decide +kernel
theorem dL_law_1035 : decode cL_law 1035 = .ok (.iload_n 3, 1) := by decide +kernel
theorem dL_law_1036 : decode cL_law 1036 = .ok (.iconst 1, 1) := by decide +kernel
theorem dL_law_1037 : decode cL_law 1037 = .ok (.iadd, 1) := by decide +kernel
theorem dL_law_1038 : decode cL_law 1038 = .ok (.iaload, 1) := by decide +kernel
theorem dL_law_1039 : decode cL_law 1039 = .ok (.invokevirtual 156, 3) := by decide +kernel
theorem dL_law_1042 : decode cL_law 1042 = .ok (.if_icmp .eq 394, 3) := by decide +kernel
theorem dL_law_1045 : decode cL_law 1045 = .ok (.iconst 0, 1) := by decide +kernel
theorem dL_law_1046 : decode cL_law 1046 = .ok (.ireturn, 1) := by decide +kernel
theorem dL_law_1047 : decode cL_law 1047 = .ok (.aload_n 1, 1) := by decide +kernel
theorem dL_law_1048 : decode cL_law 1048 = .ok (.aload_n 0, 1) := by decide +kernel
theorem dL_law_1049 : decode cL_law 1049 = .ok (.iload_n 3, 1) := by decide +kernel
theorem dL_law_1050 : decode cL_law 1050 = .ok (.iconst 1, 1) := by decide +kernel
theorem dL_law_1051 : decode cL_law 1051 = .ok (.iadd, 1) := by decide +kernel
theorem dL_law_1052 : decode cL_law 1052 = .ok (.iaload, 1) := by decide +kernel
theorem dL_law_1053 : decode cL_law 1053 = .ok (.invokevirtual 157, 3) := by decide +kernel
theorem dL_law_1056 : decode cL_law 1056 = .ok (.aload_n 2, 1) := by decide +kernel
theorem dL_law_1057 : decode cL_law 1057 = .ok (.aload_n 0, 1) := by decide +kernel
theorem dL_law_1058 : decode cL_law 1058 = .ok (.iload_n 3, 1) := by decide +kernel
theorem dL_law_1059 : decode cL_law 1059 = .ok (.iconst 1, 1) := by decide +kernel
theorem dL_law_1060 : decode cL_law 1060 = .ok (.iadd, 1) := by decide +kernel
theorem dL_law_1061 : decode cL_law 1061 = .ok (.iaload, 1) := by decide +kernel
theorem dL_law_1062 : decode cL_law 1062 = .ok (.invokevirtual 160, 3) := by decide +kernel
theorem dL_law_1065 : decode cL_law 1065 = .ok (.if_icmp .eq 371, 3) := by decide +kernel
theorem dL_law_1068 : decode cL_law 1068 = .ok (.iconst 0, 1) := by decide +kernel
theorem dL_law_1069 : decode cL_law 1069 = .ok (.ireturn, 1) := by decide +kernel
theorem dL_law_1070 : decode cL_law 1070 = .ok (.aload_n 1, 1) := by decide +kernel
theorem dL_law_1071 : decode cL_law 1071 = .ok (.invokevirtual 161, 3) := by decide +kernel
theorem dL_law_1074 : decode cL_law 1074 = .ok (.aload_n 2, 1) := by decide +kernel
theorem dL_law_1075 : decode cL_law 1075 = .ok (.invokevirtual 164, 3) := by decide +kernel
theorem dL_law_1078 : decode cL_law 1078 = .ok (.if_icmp .eq 358, 3) := by decide +kernel
theorem dL_law_1081 : decode cL_law 1081 = .ok (.iconst 0, 1) := by decide +kernel
theorem dL_law_1082 : decode cL_law 1082 = .ok (.ireturn, 1) := by decide +kernel
theorem dL_law_1083 : decode cL_law 1083 = .ok (.aload_n 1, 1) := by decide +kernel
theorem dL_law_1084 : decode cL_law 1084 = .ok (.aload_n 0, 1) := by decide +kernel
theorem dL_law_1085 : decode cL_law 1085 = .ok (.iload_n 3, 1) := by decide +kernel
theorem dL_law_1086 : decode cL_law 1086 = .ok (.iconst 1, 1) := by decide +kernel
theorem dL_law_1087 : decode cL_law 1087 = .ok (.iadd, 1) := by decide +kernel
theorem dL_law_1088 : decode cL_law 1088 = .ok (.iaload, 1) := by decide +kernel
theorem dL_law_1089 : decode cL_law 1089 = .ok (.invokevirtual 165, 3) := by decide +kernel
theorem dL_law_1092 : decode cL_law 1092 = .ok (.aload_n 2, 1) := by decide +kernel
theorem dL_law_1093 : decode cL_law 1093 = .ok (.aload_n 0, 1) := by decide +kernel
theorem dL_law_1094 : decode cL_law 1094 = .ok (.iload_n 3, 1) := by decide +kernel
theorem dL_law_1095 : decode cL_law 1095 = .ok (.iconst 1, 1) := by decide +kernel
theorem dL_law_1096 : decode cL_law 1096 = .ok (.iadd, 1) := by decide +kernel
theorem dL_law_1097 : decode cL_law 1097 = .ok (.iaload, 1) := by decide +kernel
theorem dL_law_1098 : decode cL_law 1098 = .ok (.invokevirtual 168, 3) := by decide +kernel
theorem dL_law_1101 : decode cL_law 1101 = .ok (.if_icmp .eq 335, 3) := by decide +kernel
theorem dL_law_1104 : decode cL_law 1104 = .ok (.iconst 0, 1) := by decide +kernel
theorem dL_law_1105 : decode cL_law 1105 = .ok (.ireturn, 1) := by decide +kernel
theorem dL_law_1106 : decode cL_law 1106 = .ok (.aload_n 1, 1) := by decide +kernel
theorem dL_law_1107 : decode cL_law 1107 = .ok (.invokevirtual 169, 3) := by decide +kernel
theorem dL_law_1110 : decode cL_law 1110 = .ok (.aload_n 2, 1) := by decide +kernel
theorem dL_law_1111 : decode cL_law 1111 = .ok (.invokevirtual 172, 3) := by decide +kernel
theorem dL_law_1114 : decode cL_law 1114 = .ok (.if_icmp .eq 322, 3) := by decide +kernel
theorem dL_law_1117 : decode cL_law 1117 = .ok (.iconst 0, 1) := by decide +kernel
theorem dL_law_1118 : decode cL_law 1118 = .ok (.ireturn, 1) := by decide +kernel
theorem dL_law_1119 : decode cL_law 1119 = .ok (.aload_n 1, 1) := by decide +kernel
theorem dL_law_1120 : decode cL_law 1120 = .ok (.invokevirtual 173, 3) := by decide +kernel
theorem dL_law_1123 : decode cL_law 1123 = .ok (.aload_n 2, 1) := by decide +kernel
theorem dL_law_1124 : decode cL_law 1124 = .ok (.invokevirtual 176, 3) := by decide +kernel
theorem dL_law_1127 : decode cL_law 1127 = .ok (.if_icmp .eq 309, 3) := by decide +kernel
theorem dL_law_1130 : decode cL_law 1130 = .ok (.iconst 0, 1) := by decide +kernel
theorem dL_law_1131 : decode cL_law 1131 = .ok (.ireturn, 1) := by decide +kernel
theorem dL_law_1132 : decode cL_law 1132 = .ok (.aload_n 1, 1) := by decide +kernel
theorem dL_law_1133 : decode cL_law 1133 = .ok (.invokevirtual 177, 3) := by decide +kernel
theorem dL_law_1136 : decode cL_law 1136 = .ok (.aload_n 2, 1) := by decide +kernel
theorem dL_law_1137 : decode cL_law 1137 = .ok (.invokevirtual 180, 3) := by decide +kernel
theorem dL_law_1140 : decode cL_law 1140 = .ok (.if_icmp .eq 296, 3) := by decide +kernel
theorem dL_law_1143 : decode cL_law 1143 = .ok (.iconst 0, 1) := by decide +kernel
theorem dL_law_1144 : decode cL_law 1144 = .ok (.ireturn, 1) := by decide +kernel
theorem dL_law_1145 : decode cL_law 1145 = .ok (.aload_n 1, 1) := by decide +kernel
theorem dL_law_1146 : decode cL_law 1146 = .ok (.aload_n 0, 1) := by decide +kernel
theorem dL_law_1147 : decode cL_law 1147 = .ok (.iload_n 3, 1) := by decide +kernel
theorem dL_law_1148 : decode cL_law 1148 = .ok (.iconst 1, 1) := by decide +kernel
theorem dL_law_1149 : decode cL_law 1149 = .ok (.iadd, 1) := by decide +kernel
theorem dL_law_1150 : decode cL_law 1150 = .ok (.iaload, 1) := by decide +kernel
theorem dL_law_1151 : decode cL_law 1151 = .ok (.invokevirtual 181, 3) := by decide +kernel
theorem dL_law_1154 : decode cL_law 1154 = .ok (.aload_n 2, 1) := by decide +kernel
theorem dL_law_1155 : decode cL_law 1155 = .ok (.aload_n 0, 1) := by decide +kernel
theorem dL_law_1156 : decode cL_law 1156 = .ok (.iload_n 3, 1) := by decide +kernel
theorem dL_law_1157 : decode cL_law 1157 = .ok (.iconst 1, 1) := by decide +kernel
theorem dL_law_1158 : decode cL_law 1158 = .ok (.iadd, 1) := by decide +kernel
theorem dL_law_1159 : decode cL_law 1159 = .ok (.iaload, 1) := by decide +kernel
theorem dL_law_1160 : decode cL_law 1160 = .ok (.invokevirtual 184, 3) := by decide +kernel
theorem dL_law_1163 : decode cL_law 1163 = .ok (.if_icmp .eq 273, 3) := by decide +kernel
theorem dL_law_1166 : decode cL_law 1166 = .ok (.iconst 0, 1) := by decide +kernel
theorem dL_law_1167 : decode cL_law 1167 = .ok (.ireturn, 1) := by decide +kernel
theorem dL_law_1168 : decode cL_law 1168 = .ok (.aload_n 1, 1) := by decide +kernel
theorem dL_law_1169 : decode cL_law 1169 = .ok (.aload_n 0, 1) := by decide +kernel
theorem dL_law_1170 : decode cL_law 1170 = .ok (.iload_n 3, 1) := by decide +kernel
theorem dL_law_1171 : decode cL_law 1171 = .ok (.iconst 1, 1) := by decide +kernel
theorem dL_law_1172 : decode cL_law 1172 = .ok (.iadd, 1) := by decide +kernel
theorem dL_law_1173 : decode cL_law 1173 = .ok (.iaload, 1) := by decide +kernel
theorem dL_law_1174 : decode cL_law 1174 = .ok (.invokevirtual 185, 3) := by decide +kernel
theorem dL_law_1177 : decode cL_law 1177 = .ok (.aload_n 2, 1) := by decide +kernel
theorem dL_law_1178 : decode cL_law 1178 = .ok (.aload_n 0, 1) := by decide +kernel
theorem dL_law_1179 : decode cL_law 1179 = .ok (.iload_n 3, 1) := by decide +kernel
theorem dL_law_1180 : decode cL_law 1180 = .ok (.iconst 1, 1) := by decide +kernel
theorem dL_law_1181 : decode cL_law 1181 = .ok (.iadd, 1) := by decide +kernel
theorem dL_law_1182 : decode cL_law 1182 = .ok (.iaload, 1) := by decide +kernel
theorem dL_law_1183 : decode cL_law 1183 = .ok (.invokevirtual 188, 3) := by decide +kernel
theorem dL_law_1186 : decode cL_law 1186 = .ok (.if_icmp .eq 250, 3) := by decide +kernel
theorem dL_law_1189 : decode cL_law 1189 = .ok (.iconst 0, 1) := by decide +kernel
theorem dL_law_1190 : decode cL_law 1190 = .ok (.ireturn, 1) := by decide +kernel
theorem dL_law_1191 : decode cL_law 1191 = .ok (.aload_n 1, 1) := by decide +kernel
theorem dL_law_1192 : decode cL_law 1192 = .ok (.aload_n 0, 1) := by decide +kernel
theorem dL_law_1193 : decode cL_law 1193 = .ok (.iload_n 3, 1) := by decide +kernel
theorem dL_law_1194 : decode cL_law 1194 = .ok (.iconst 1, 1) := by decide +kernel
theorem dL_law_1195 : decode cL_law 1195 = .ok (.iadd, 1) := by decide +kernel
theorem dL_law_1196 : decode cL_law 1196 = .ok (.iaload, 1) := by decide +kernel
theorem dL_law_1197 : decode cL_law 1197 = .ok (.aload_n 0, 1) := by decide +kernel
theorem dL_law_1198 : decode cL_law 1198 = .ok (.iload_n 3, 1) := by decide +kernel
theorem dL_law_1199 : decode cL_law 1199 = .ok (.iconst 2, 1) := by decide +kernel
theorem dL_law_1200 : decode cL_law 1200 = .ok (.iadd, 1) := by decide +kernel
theorem dL_law_1201 : decode cL_law 1201 = .ok (.iaload, 1) := by decide +kernel
theorem dL_law_1202 : decode cL_law 1202 = .ok (.invokevirtual 189, 3) := by decide +kernel
theorem dL_law_1205 : decode cL_law 1205 = .ok (.aload_n 2, 1) := by decide +kernel
theorem dL_law_1206 : decode cL_law 1206 = .ok (.aload_n 0, 1) := by decide +kernel
theorem dL_law_1207 : decode cL_law 1207 = .ok (.iload_n 3, 1) := by decide +kernel
theorem dL_law_1208 : decode cL_law 1208 = .ok (.iconst 1, 1) := by decide +kernel
theorem dL_law_1209 : decode cL_law 1209 = .ok (.iadd, 1) := by decide +kernel
theorem dL_law_1210 : decode cL_law 1210 = .ok (.iaload, 1) := by decide +kernel
theorem dL_law_1211 : decode cL_law 1211 = .ok (.aload_n 0, 1) := by decide +kernel
theorem dL_law_1212 : decode cL_law 1212 = .ok (.iload_n 3, 1) := by decide +kernel
theorem dL_law_1213 : decode cL_law 1213 = .ok (.iconst 2, 1) := by decide +kernel
theorem dL_law_1214 : decode cL_law 1214 = .ok (.iadd, 1) := by decide +kernel
theorem dL_law_1215 : decode cL_law 1215 = .ok (.iaload, 1) := by decide +kernel
theorem dL_law_1216 : decode cL_law 1216 = .ok (.invokevirtual 192, 3) := by decide +kernel
theorem dL_law_1219 : decode cL_law 1219 = .ok (.if_icmp .eq 217, 3) := by decide +kernel
theorem dL_law_1222 : decode cL_law 1222 = .ok (.iconst 0, 1) := by decide +kernel
theorem dL_law_1223 : decode cL_law 1223 = .ok (.ireturn, 1) := by decide +kernel
theorem dL_law_1224 : decode cL_law 1224 = .ok (.aload_n 1, 1) := by decide +kernel
theorem dL_law_1225 : decode cL_law 1225 = .ok (.aload_n 0, 1) := by decide +kernel
theorem dL_law_1226 : decode cL_law 1226 = .ok (.iload_n 3, 1) := by decide +kernel
theorem dL_law_1227 : decode cL_law 1227 = .ok (.iconst 1, 1) := by decide +kernel
theorem dL_law_1228 : decode cL_law 1228 = .ok (.iadd, 1) := by decide +kernel
theorem dL_law_1229 : decode cL_law 1229 = .ok (.iaload, 1) := by decide +kernel
theorem dL_law_1230 : decode cL_law 1230 = .ok (.aload_n 0, 1) := by decide +kernel
theorem dL_law_1231 : decode cL_law 1231 = .ok (.iload_n 3, 1) := by decide +kernel
theorem dL_law_1232 : decode cL_law 1232 = .ok (.iconst 2, 1) := by decide +kernel
theorem dL_law_1233 : decode cL_law 1233 = .ok (.iadd, 1) := by decide +kernel
theorem dL_law_1234 : decode cL_law 1234 = .ok (.iaload, 1) := by decide +kernel
theorem dL_law_1235 : decode cL_law 1235 = .ok (.invokevirtual 193, 3) := by decide +kernel
theorem dL_law_1238 : decode cL_law 1238 = .ok (.aload_n 2, 1) := by decide +kernel
theorem dL_law_1239 : decode cL_law 1239 = .ok (.aload_n 0, 1) := by decide +kernel
theorem dL_law_1240 : decode cL_law 1240 = .ok (.iload_n 3, 1) := by decide +kernel
theorem dL_law_1241 : decode cL_law 1241 = .ok (.iconst 1, 1) := by decide +kernel
theorem dL_law_1242 : decode cL_law 1242 = .ok (.iadd, 1) := by decide +kernel
theorem dL_law_1243 : decode cL_law 1243 = .ok (.iaload, 1) := by decide +kernel
theorem dL_law_1244 : decode cL_law 1244 = .ok (.aload_n 0, 1) := by decide +kernel
theorem dL_law_1245 : decode cL_law 1245 = .ok (.iload_n 3, 1) := by decide +kernel
theorem dL_law_1246 : decode cL_law 1246 = .ok (.iconst 2, 1) := by decide +kernel
theorem dL_law_1247 : decode cL_law 1247 = .ok (.iadd, 1) := by decide +kernel
theorem dL_law_1248 : decode cL_law 1248 = .ok (.iaload, 1) := by decide +kernel
theorem dL_law_1249 : decode cL_law 1249 = .ok (.invokevirtual 196, 3) := by decide +kernel
theorem dL_law_1252 : decode cL_law 1252 = .ok (.if_icmp .eq 184, 3) := by decide +kernel
theorem dL_law_1255 : decode cL_law 1255 = .ok (.iconst 0, 1) := by decide +kernel
theorem dL_law_1256 : decode cL_law 1256 = .ok (.ireturn, 1) := by decide +kernel
theorem dL_law_1257 : decode cL_law 1257 = .ok (.aload_n 1, 1) := by decide +kernel
theorem dL_law_1258 : decode cL_law 1258 = .ok (.aload_n 0, 1) := by decide +kernel
theorem dL_law_1259 : decode cL_law 1259 = .ok (.iload_n 3, 1) := by decide +kernel
theorem dL_law_1260 : decode cL_law 1260 = .ok (.iconst 1, 1) := by decide +kernel
theorem dL_law_1261 : decode cL_law 1261 = .ok (.iadd, 1) := by decide +kernel
theorem dL_law_1262 : decode cL_law 1262 = .ok (.iaload, 1) := by decide +kernel
theorem dL_law_1263 : decode cL_law 1263 = .ok (.aload_n 0, 1) := by decide +kernel
theorem dL_law_1264 : decode cL_law 1264 = .ok (.iload_n 3, 1) := by decide +kernel
theorem dL_law_1265 : decode cL_law 1265 = .ok (.iconst 2, 1) := by decide +kernel
theorem dL_law_1266 : decode cL_law 1266 = .ok (.iadd, 1) := by decide +kernel
theorem dL_law_1267 : decode cL_law 1267 = .ok (.iaload, 1) := by decide +kernel
theorem dL_law_1268 : decode cL_law 1268 = .ok (.aload_n 0, 1) := by decide +kernel
theorem dL_law_1269 : decode cL_law 1269 = .ok (.iload_n 3, 1) := by decide +kernel
theorem dL_law_1270 : decode cL_law 1270 = .ok (.iconst 3, 1) := by decide +kernel
theorem dL_law_1271 : decode cL_law 1271 = .ok (.iadd, 1) := by decide +kernel
theorem dL_law_1272 : decode cL_law 1272 = .ok (.iaload, 1) := by decide +kernel
theorem dL_law_1273 : decode cL_law 1273 = .ok (.i2l, 1) := by decide +kernel
theorem dL_law_1274 : decode cL_law 1274 = .ok (.bipush 32, 2) := by decide +kernel
theorem dL_law_1276 : decode cL_law 1276 = .ok (.lshl, 1) := by decide +kernel
theorem dL_law_1277 : decode cL_law 1277 = .ok (.aload_n 0, 1) := by decide +kernel
theorem dL_law_1278 : decode cL_law 1278 = .ok (.iload_n 3, 1) := by decide +kernel
theorem dL_law_1279 : decode cL_law 1279 = .ok (.iconst 4, 1) := by decide +kernel
theorem dL_law_1280 : decode cL_law 1280 = .ok (.iadd, 1) := by decide +kernel
theorem dL_law_1281 : decode cL_law 1281 = .ok (.iaload, 1) := by decide +kernel
theorem dL_law_1282 : decode cL_law 1282 = .ok (.i2l, 1) := by decide +kernel
theorem dL_law_1283 : decode cL_law 1283 = .ok (.ldc2_w 197, 3) := by decide +kernel
theorem dL_law_1286 : decode cL_law 1286 = .ok (.land, 1) := by decide +kernel
theorem dL_law_1287 : decode cL_law 1287 = .ok (.lor, 1) := by decide +kernel
theorem dL_law_1288 : decode cL_law 1288 = .ok (.invokevirtual 199, 3) := by decide +kernel
theorem dL_law_1291 : decode cL_law 1291 = .ok (.aload_n 2, 1) := by decide +kernel
theorem dL_law_1292 : decode cL_law 1292 = .ok (.aload_n 0, 1) := by decide +kernel
theorem dL_law_1293 : decode cL_law 1293 = .ok (.iload_n 3, 1) := by decide +kernel
theorem dL_law_1294 : decode cL_law 1294 = .ok (.iconst 1, 1) := by decide +kernel
theorem dL_law_1295 : decode cL_law 1295 = .ok (.iadd, 1) := by decide +kernel
theorem dL_law_1296 : decode cL_law 1296 = .ok (.iaload, 1) := by decide +kernel
theorem dL_law_1297 : decode cL_law 1297 = .ok (.aload_n 0, 1) := by decide +kernel
theorem dL_law_1298 : decode cL_law 1298 = .ok (.iload_n 3, 1) := by decide +kernel
theorem dL_law_1299 : decode cL_law 1299 = .ok (.iconst 2, 1) := by decide +kernel
theorem dL_law_1300 : decode cL_law 1300 = .ok (.iadd, 1) := by decide +kernel
theorem dL_law_1301 : decode cL_law 1301 = .ok (.iaload, 1) := by decide +kernel
theorem dL_law_1302 : decode cL_law 1302 = .ok (.aload_n 0, 1) := by decide +kernel
theorem dL_law_1303 : decode cL_law 1303 = .ok (.iload_n 3, 1) := by decide +kernel
theorem dL_law_1304 : decode cL_law 1304 = .ok (.iconst 3, 1) := by decide +kernel
theorem dL_law_1305 : decode cL_law 1305 = .ok (.iadd, 1) := by decide +kernel
theorem dL_law_1306 : decode cL_law 1306 = .ok (.iaload, 1) := by decide +kernel
theorem dL_law_1307 : decode cL_law 1307 = .ok (.i2l, 1) := by decide +kernel
theorem dL_law_1308 : decode cL_law 1308 = .ok (.bipush 32, 2) := by decide +kernel
theorem dL_law_1310 : decode cL_law 1310 = .ok (.lshl, 1) := by decide +kernel
theorem dL_law_1311 : decode cL_law 1311 = .ok (.aload_n 0, 1) := by decide +kernel
theorem dL_law_1312 : decode cL_law 1312 = .ok (.iload_n 3, 1) := by decide +kernel
theorem dL_law_1313 : decode cL_law 1313 = .ok (.iconst 4, 1) := by decide +kernel
theorem dL_law_1314 : decode cL_law 1314 = .ok (.iadd, 1) := by decide +kernel
theorem dL_law_1315 : decode cL_law 1315 = .ok (.iaload, 1) := by decide +kernel
theorem dL_law_1316 : decode cL_law 1316 = .ok (.i2l, 1) := by decide +kernel
theorem dL_law_1317 : decode cL_law 1317 = .ok (.ldc2_w 197, 3) := by decide +kernel
theorem dL_law_1320 : decode cL_law 1320 = .ok (.land, 1) := by decide +kernel
theorem dL_law_1321 : decode cL_law 1321 = .ok (.lor, 1) := by decide +kernel
theorem dL_law_1322 : decode cL_law 1322 = .ok (.invokevirtual 203, 3) := by decide +kernel
theorem dL_law_1325 : decode cL_law 1325 = .ok (.if_icmp .eq 111, 3) := by decide +kernel
theorem dL_law_1328 : decode cL_law 1328 = .ok (.iconst 0, 1) := by decide +kernel
theorem dL_law_1329 : decode cL_law 1329 = .ok (.ireturn, 1) := by decide +kernel
theorem dL_law_1330 : decode cL_law 1330 = .ok (.aload_n 1, 1) := by decide +kernel
theorem dL_law_1331 : decode cL_law 1331 = .ok (.aload_n 0, 1) := by decide +kernel
theorem dL_law_1332 : decode cL_law 1332 = .ok (.iload_n 3, 1) := by decide +kernel
theorem dL_law_1333 : decode cL_law 1333 = .ok (.iconst 1, 1) := by decide +kernel
theorem dL_law_1334 : decode cL_law 1334 = .ok (.iadd, 1) := by decide +kernel
theorem dL_law_1335 : decode cL_law 1335 = .ok (.iaload, 1) := by decide +kernel
theorem dL_law_1336 : decode cL_law 1336 = .ok (.aload_n 0, 1) := by decide +kernel
theorem dL_law_1337 : decode cL_law 1337 = .ok (.iload_n 3, 1) := by decide +kernel
theorem dL_law_1338 : decode cL_law 1338 = .ok (.iconst 2, 1) := by decide +kernel
theorem dL_law_1339 : decode cL_law 1339 = .ok (.iadd, 1) := by decide +kernel
theorem dL_law_1340 : decode cL_law 1340 = .ok (.iaload, 1) := by decide +kernel
theorem dL_law_1341 : decode cL_law 1341 = .ok (.invokevirtual 204, 3) := by decide +kernel
theorem dL_law_1344 : decode cL_law 1344 = .ok (.aload_n 2, 1) := by decide +kernel
theorem dL_law_1345 : decode cL_law 1345 = .ok (.aload_n 0, 1) := by decide +kernel
theorem dL_law_1346 : decode cL_law 1346 = .ok (.iload_n 3, 1) := by decide +kernel
theorem dL_law_1347 : decode cL_law 1347 = .ok (.iconst 1, 1) := by decide +kernel
theorem dL_law_1348 : decode cL_law 1348 = .ok (.iadd, 1) := by decide +kernel
theorem dL_law_1349 : decode cL_law 1349 = .ok (.iaload, 1) := by decide +kernel
theorem dL_law_1350 : decode cL_law 1350 = .ok (.aload_n 0, 1) := by decide +kernel
theorem dL_law_1351 : decode cL_law 1351 = .ok (.iload_n 3, 1) := by decide +kernel
theorem dL_law_1352 : decode cL_law 1352 = .ok (.iconst 2, 1) := by decide +kernel
theorem dL_law_1353 : decode cL_law 1353 = .ok (.iadd, 1) := by decide +kernel
theorem dL_law_1354 : decode cL_law 1354 = .ok (.iaload, 1) := by decide +kernel
theorem dL_law_1355 : decode cL_law 1355 = .ok (.invokevirtual 208, 3) := by decide +kernel
theorem dL_law_1358 : decode cL_law 1358 = .ok (.lcmp, 1) := by decide +kernel
theorem dL_law_1359 : decode cL_law 1359 = .ok (.ifCond .eq 77, 3) := by decide +kernel
theorem dL_law_1362 : decode cL_law 1362 = .ok (.iconst 0, 1) := by decide +kernel
theorem dL_law_1363 : decode cL_law 1363 = .ok (.ireturn, 1) := by decide +kernel
theorem dL_law_1364 : decode cL_law 1364 = .ok (.aload_n 1, 1) := by decide +kernel
theorem dL_law_1365 : decode cL_law 1365 = .ok (.aload_n 0, 1) := by decide +kernel
theorem dL_law_1366 : decode cL_law 1366 = .ok (.iload_n 3, 1) := by decide +kernel
theorem dL_law_1367 : decode cL_law 1367 = .ok (.iconst 1, 1) := by decide +kernel
theorem dL_law_1368 : decode cL_law 1368 = .ok (.iadd, 1) := by decide +kernel
theorem dL_law_1369 : decode cL_law 1369 = .ok (.iaload, 1) := by decide +kernel
theorem dL_law_1370 : decode cL_law 1370 = .ok (.invokevirtual 209, 3) := by decide +kernel
theorem dL_law_1373 : decode cL_law 1373 = .ok (.aload_n 2, 1) := by decide +kernel
theorem dL_law_1374 : decode cL_law 1374 = .ok (.aload_n 0, 1) := by decide +kernel
theorem dL_law_1375 : decode cL_law 1375 = .ok (.iload_n 3, 1) := by decide +kernel
theorem dL_law_1376 : decode cL_law 1376 = .ok (.iconst 1, 1) := by decide +kernel
theorem dL_law_1377 : decode cL_law 1377 = .ok (.iadd, 1) := by decide +kernel
theorem dL_law_1378 : decode cL_law 1378 = .ok (.iaload, 1) := by decide +kernel
theorem dL_law_1379 : decode cL_law 1379 = .ok (.invokevirtual 212, 3) := by decide +kernel
theorem dL_law_1382 : decode cL_law 1382 = .ok (.if_icmp .eq 54, 3) := by decide +kernel
theorem dL_law_1385 : decode cL_law 1385 = .ok (.iconst 0, 1) := by decide +kernel
theorem dL_law_1386 : decode cL_law 1386 = .ok (.ireturn, 1) := by decide +kernel
theorem dL_law_1387 : decode cL_law 1387 = .ok (.aload_n 1, 1) := by decide +kernel
theorem dL_law_1388 : decode cL_law 1388 = .ok (.aload_n 0, 1) := by decide +kernel
theorem dL_law_1389 : decode cL_law 1389 = .ok (.iload_n 3, 1) := by decide +kernel
theorem dL_law_1390 : decode cL_law 1390 = .ok (.iconst 1, 1) := by decide +kernel
theorem dL_law_1391 : decode cL_law 1391 = .ok (.iadd, 1) := by decide +kernel
theorem dL_law_1392 : decode cL_law 1392 = .ok (.iaload, 1) := by decide +kernel
theorem dL_law_1393 : decode cL_law 1393 = .ok (.invokevirtual 213, 3) := by decide +kernel
theorem dL_law_1396 : decode cL_law 1396 = .ok (.aload_n 2, 1) := by decide +kernel
theorem dL_law_1397 : decode cL_law 1397 = .ok (.aload_n 0, 1) := by decide +kernel
theorem dL_law_1398 : decode cL_law 1398 = .ok (.iload_n 3, 1) := by decide +kernel
theorem dL_law_1399 : decode cL_law 1399 = .ok (.iconst 1, 1) := by decide +kernel
theorem dL_law_1400 : decode cL_law 1400 = .ok (.iadd, 1) := by decide +kernel
theorem dL_law_1401 : decode cL_law 1401 = .ok (.iaload, 1) := by decide +kernel
theorem dL_law_1402 : decode cL_law 1402 = .ok (.invokevirtual 216, 3) := by decide +kernel
theorem dL_law_1405 : decode cL_law 1405 = .ok (.if_icmp .eq 31, 3) := by decide +kernel
theorem dL_law_1408 : decode cL_law 1408 = .ok (.iconst 0, 1) := by decide +kernel
theorem dL_law_1409 : decode cL_law 1409 = .ok (.ireturn, 1) := by decide +kernel
theorem dL_law_1410 : decode cL_law 1410 = .ok (.aload_n 1, 1) := by decide +kernel
theorem dL_law_1411 : decode cL_law 1411 = .ok (.invokevirtual 217, 3) := by decide +kernel
theorem dL_law_1414 : decode cL_law 1414 = .ok (.aload_n 2, 1) := by decide +kernel
theorem dL_law_1415 : decode cL_law 1415 = .ok (.invokevirtual 220, 3) := by decide +kernel
theorem dL_law_1418 : decode cL_law 1418 = .ok (.if_icmp .eq 18, 3) := by decide +kernel
theorem dL_law_1421 : decode cL_law 1421 = .ok (.iconst 0, 1) := by decide +kernel
theorem dL_law_1422 : decode cL_law 1422 = .ok (.ireturn, 1) := by decide +kernel
theorem dL_law_1423 : decode cL_law 1423 = .ok (.aload_n 1, 1) := by decide +kernel
theorem dL_law_1424 : decode cL_law 1424 = .ok (.invokevirtual 221, 3) := by decide +kernel
theorem dL_law_1427 : decode cL_law 1427 = .ok (.aload_n 2, 1) := by decide +kernel
theorem dL_law_1428 : decode cL_law 1428 = .ok (.invokevirtual 224, 3) := by decide +kernel
theorem dL_law_1431 : decode cL_law 1431 = .ok (.if_icmp .eq 5, 3) := by decide +kernel
theorem dL_law_1434 : decode cL_law 1434 = .ok (.iconst 0, 1) := by decide +kernel
theorem dL_law_1435 : decode cL_law 1435 = .ok (.ireturn, 1) := by decide +kernel
theorem dL_law_1436 : decode cL_law 1436 = .ok (.iinc 3 5, 3) := by decide +kernel
theorem dL_law_1439 : decode cL_law 1439 = .ok (.goto (-1421), 3) := by decide +kernel
theorem dL_law_1442 : decode cL_law 1442 = .ok (.iconst 1, 1) := by decide +kernel
theorem dL_law_1443 : decode cL_law 1443 = .ok (.ireturn, 1) := by decide +kernel
abbrev vwCl : List vw_C := [(RX0, TX0, 4), (RX1, TX1, 2), (RX2, TX2, 2), (RX3, TX3, 6), (RX4, TX4, 5), (RX5, TX5, 2), (RX6, TX6, 2), (RX7, TX7, 3), (RX8, TX8, 3), (RX9, TX9, 10), (RX11, TX11, 16), (RX12, TX12, 52)]
