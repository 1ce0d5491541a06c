theorem dX12_longestPath_117 : decode cX12_longestPath 117 = .ok (.aload_n 0, 1) := by decide +kernel
theorem dX12_longestPath_118 : decode cX12_longestPath 118 = .ok (.getfield 21, 3) := by decide +kernel
theorem dX12_longestPath_121 : decode cX12_longestPath 121 = .ok (.iload_n 3, 1) := by decide +kernel
theorem dX12_longestPath_122 : decode cX12_longestPath 122 = .ok (.iaload, 1) := by decide +kernel
theorem dX12_longestPath_123 : decode cX12_longestPath 123 = .ok (.iaload, 1) := by decide +kernel
theorem dX12_longestPath_124 : decode cX12_longestPath 124 = .ok (.iconst 1, 1) := by decide +kernel
theorem dX12_longestPath_125 : decode cX12_longestPath 125 = .ok (.iadd, 1) := by decide +kernel
theorem dX12_longestPath_126 : decode cX12_longestPath 126 = .ok (.aload_n 0, 1) := by decide +kernel
theorem dX12_longestPath_127 : decode cX12_longestPath 127 = .ok (.getfield 38, 3) := by decide +kernel
theorem dX12_longestPath_130 : decode cX12_longestPath 130 = .ok (.aload_n 0, 1) := by decide +kernel
theorem dX12_longestPath_131 : decode cX12_longestPath 131 = .ok (.getfield 17, 3) := by decide +kernel
theorem dX12_longestPath_134 : decode cX12_longestPath 134 = .ok (.iload_n 3, 1) := by decide +kernel
theorem dX12_longestPath_135 : decode cX12_longestPath 135 = .ok (.iaload, 1) := by decide +kernel
theorem dX12_longestPath_136 : decode cX12_longestPath 136 = .ok (.iaload, 1) := by decide +kernel
theorem dX12_longestPath_137 : decode cX12_longestPath 137 = .ok (.if_icmp .le 27, 3) := by decide +kernel
theorem dX12_longestPath_140 : decode cX12_longestPath 140 = .ok (.aload_n 0, 1) := by decide +kernel
theorem dX12_longestPath_141 : decode cX12_longestPath 141 = .ok (.getfield 38, 3) := by decide +kernel
theorem dX12_longestPath_144 : decode cX12_longestPath 144 = .ok (.aload_n 0, 1) := by decide +kernel
theorem dX12_longestPath_145 : decode cX12_longestPath 145 = .ok (.getfield 17, 3) := by decide +kernel
theorem dX12_longestPath_148 : decode cX12_longestPath 148 = .ok (.iload_n 3, 1) := by decide +kernel
theorem dX12_longestPath_149 : decode cX12_longestPath 149 = .ok (.iaload, 1) := by decide +kernel
theorem dX12_longestPath_150 : decode cX12_longestPath 150 = .ok (.aload_n 0, 1) := by decide +kernel
theorem dX12_longestPath_151 : decode cX12_longestPath 151 = .ok (.getfield 38, 3) := by decide +kernel
theorem dX12_longestPath_154 : decode cX12_longestPath 154 = .ok (.aload_n 0, 1) := by decide +kernel
theorem dX12_longestPath_155 : decode cX12_longestPath 155 = .ok (.getfield 21, 3) := by decide +kernel
theorem dX12_longestPath_158 : decode cX12_longestPath 158 = .ok (.iload_n 3, 1) := by decide +kernel
theorem dX12_longestPath_159 : decode cX12_longestPath 159 = .ok (.iaload, 1) := by decide +kernel
theorem dX12_longestPath_160 : decode cX12_longestPath 160 = .ok (.iaload, 1) := by decide +kernel
theorem dX12_longestPath_161 : decode cX12_longestPath 161 = .ok (.iconst 1, 1) := by decide +kernel
theorem dX12_longestPath_162 : decode cX12_longestPath 162 = .ok (.iadd, 1) := by decide +kernel
theorem dX12_longestPath_163 : decode cX12_longestPath 163 = .ok (.iastore, 1) := by decide +kernel
theorem dX12_longestPath_164 : decode cX12_longestPath 164 = .ok (.iinc 3 1, 3) := by decide +kernel
theorem dX12_longestPath_167 : decode cX12_longestPath 167 = .ok (.goto (-93), 3) := by decide +kernel
theorem dX12_longestPath_170 : decode cX12_longestPath 170 = .ok (.iinc 2 1, 3) := by decide +kernel
theorem dX12_longestPath_173 : decode cX12_longestPath 173 = .ok (.goto (-109), 3) := by decide +kernel
theorem dX12_longestPath_176 : decode cX12_longestPath 176 = .ok (.aload_n 0, 1) := by decide +kernel
theorem dX12_longestPath_177 : decode cX12_longestPath 177 = .ok (.getfield 38, 3) := by decide +kernel
theorem dX12_longestPath_180 : decode cX12_longestPath 180 = .ok (.iload_n 1, 1) := by decide +kernel
theorem dX12_longestPath_181 : decode cX12_longestPath 181 = .ok (.iaload, 1) := by decide +kernel
theorem dX12_longestPath_182 : decode cX12_longestPath 182 = .ok (.ireturn, 1) := by decide +kernel
set_option maxRecDepth 20000 in
theorem ggX12_areJoinable_X12_reachedFrom : GoodIn wsX12_areJoinable wsX12_reachedFrom := goodIn_r _ [5, 6, 7, 8, 9, 10, 11, 12, 13, 14, 15, 16, 17, 18, 19, 20, 21, 22, 23, 24, 25, 26, 27, 28, 29, 30, 31, 32, 33, 34, 35, 36, 37, 38, 39, 40, 41, 42, 43, 44, 45, 46, 47, 48, 49, 50, 51, 52, 53, 54, 55, 56, 57, 58, 59] (by decide +kernel) (by decide +kernel)
set_option maxRecDepth 20000 in
theorem gX12_areJoinable_X12_reachedFrom : GoodIn wsX12_areJoinable (wsV RX12 154 RX12 yX12_reachedFrom wsX12_reachedFrom) := goodIn_app (goodIn_of _ (by decide +kernel)) ggX12_areJoinable_X12_reachedFrom
theorem dX12_areJoinable_0 : decode cX12_areJoinable 0 = .ok (.aload_n 0, 1) := by decide +kernel
theorem dX12_areJoinable_1 : decode cX12_areJoinable 1 = .ok (.iload_n 1, 1) := by decide +kernel
theorem dX12_areJoinable_2 : decode cX12_areJoinable 2 = .ok (.invokevirtual 154, 3) := by decide +kernel
theorem dX12_areJoinable_5 : decode cX12_areJoinable 5 = .ok (.aload_n 0, 1) := by decide +kernel
theorem dX12_areJoinable_6 : decode cX12_areJoinable 6 = .ok (.iload_n 2, 1) := by decide +kernel
theorem dX12_areJoinable_7 : decode cX12_areJoinable 7 = .ok (.invokevirtual 154, 3) := by decide +kernel
theorem dX12_areJoinable_10 : decode cX12_areJoinable 10 = .ok (.iand, 1) := by decide +kernel
theorem dX12_areJoinable_11 : decode cX12_areJoinable 11 = .ok (.ifCond .eq 7, 3) := by decide +kernel
theorem dX12_areJoinable_14 : decode cX12_areJoinable 14 = .ok (.iconst 1, 1) := by decide +kernel
theorem dX12_areJoinable_15 : decode cX12_areJoinable 15 = .ok (.goto 4, 3) := by decide +kernel
theorem dX12_areJoinable_18 : decode cX12_areJoinable 18 = .ok (.iconst 0, 1) := by decide +kernel
theorem dX12_areJoinable_19 : decode cX12_areJoinable 19 = .ok (.ireturn, 1) := by decide +kernel
set_option maxRecDepth 20000 in
theorem ggX12_counterexample_X12_findDistances : GoodIn wsX12_counterexample wsX12_findDistances := goodIn_r _ [7, 1, 2, 8, 9, 10, 19, 20, 21, 22, 23, 24, 25, 26, 27, 28, 29, 30, 31, 32, 33, 34, 35, 36, 37, 38, 39, 40, 41, 42, 43, 44, 45, 46, 47, 48, 49, 50, 51, 52, 53, 54, 55, 56, 57, 58, 59, 60, 61, 62, 63, 64, 65, 66, 67, 68, 69, 70] (by decide +kernel) (by decide +kernel)
set_option maxRecDepth 20000 in
theorem gX12_counterexample_X12_findDistances : GoodIn wsX12_counterexample (wsV RX12 151 RX12 yX12_findDistances wsX12_findDistances) := goodIn_app (goodIn_of _ (by decide +kernel)) ggX12_counterexample_X12_findDistances
set_option maxRecDepth 20000 in
theorem ggX12_counterexample_X12_areJoinable : GoodIn wsX12_counterexample wsX12_areJoinable := goodIn_r _ [14, 15, 16, 17, 6, 18, 1, 2, 19, 20, 21, 22, 23, 24, 25, 26, 27, 28, 29, 30, 31, 32, 33, 34, 35, 36, 37, 38, 39, 40, 41, 42, 43, 44, 45, 46, 47, 48, 49, 50, 51, 52, 53, 54, 55, 56, 57, 58, 59, 60, 61, 62, 63, 64, 65, 66, 67, 68, 69, 70] (by decide +kernel) (by decide +kernel)
set_option maxRecDepth 20000 in
theorem gX12_counterexample_X12_areJoinable : GoodIn wsX12_counterexample (wsV RX12 164 RX12 yX12_areJoinable wsX12_areJoinable) := goodIn_app (goodIn_of _ (by decide +kernel)) ggX12_counterexample_X12_areJoinable
theorem dX12_counterexample_0 : decode cX12_counterexample 0 = .ok (.aload_n 0, 1) := by decide +kernel
theorem dX12_counterexample_1 : decode cX12_counterexample 1 = .ok (.invokevirtual 151, 3) := by decide +kernel
theorem dX12_counterexample_4 : decode cX12_counterexample 4 = .ok (.iconst 0, 1) := by decide +kernel
theorem dX12_counterexample_5 : decode cX12_counterexample 5 = .ok (.istore_n 1, 1) := by decide +kernel
theorem dX12_counterexample_6 : decode cX12_counterexample 6 = .ok (.iload_n 1, 1) := by decide +kernel
theorem dX12_counterexample_7 : decode cX12_counterexample 7 = .ok (.aload_n 0, 1) := by decide +kernel
theorem dX12_counterexample_8 : decode cX12_counterexample 8 = .ok (.getfield 132, 3) := by decide +kernel
theorem dX12_counterexample_11 : decode cX12_counterexample 11 = .ok (.if_icmp .ge 93, 3) := by decide +kernel
theorem dX12_counterexample_14 : decode cX12_counterexample 14 = .ok (.iconst 0, 1) := by decide +kernel
theorem dX12_counterexample_15 : decode cX12_counterexample 15 = .ok (.istore_n 2, 1) := by decide +kernel
theorem dX12_counterexample_16 : decode cX12_counterexample 16 = .ok (.iload_n 2, 1) := by decide +kernel
theorem dX12_counterexample_17 : decode cX12_counterexample 17 = .ok (.aload_n 0, 1) := by decide +kernel
theorem dX12_counterexample_18 : decode cX12_counterexample 18 = .ok (.getfield 132, 3) := by decide +kernel
theorem dX12_counterexample_21 : decode cX12_counterexample 21 = .ok (.if_icmp .ge 77, 3) := by decide +kernel
theorem dX12_counterexample_24 : decode cX12_counterexample 24 = .ok (.iload_n 2, 1) := by decide +kernel
theorem dX12_counterexample_25 : decode cX12_counterexample 25 = .ok (.iconst 1, 1) := by decide +kernel
theorem dX12_counterexample_26 : decode cX12_counterexample 26 = .ok (.iadd, 1) := by decide +kernel
theorem dX12_counterexample_27 : decode cX12_counterexample 27 = .ok (.istore_n 3, 1) := by decide +kernel
theorem dX12_counterexample_28 : decode cX12_counterexample 28 = .ok (.iload_n 3, 1) := by decide +kernel
theorem dX12_counterexample_29 : decode cX12_counterexample 29 = .ok (.aload_n 0, 1) := by decide +kernel
theorem dX12_counterexample_30 : decode cX12_counterexample 30 = .ok (.getfield 132, 3) := by decide +kernel
theorem dX12_counterexample_33 : decode cX12_counterexample 33 = .ok (.if_icmp .ge 59, 3) := by decide +kernel
theorem dX12_counterexample_36 : decode cX12_counterexample 36 = .ok (.aload_n 0, 1) := by decide +kernel
theorem dX12_counterexample_37 : decode cX12_counterexample 37 = .ok (.getfield 35, 3) := by decide +kernel
theorem dX12_counterexample_40 : decode cX12_counterexample 40 = .ok (.iload_n 1, 1) := by decide +kernel
theorem dX12_counterexample_41 : decode cX12_counterexample 41 = .ok (.aaload, 1) := by decide +kernel
theorem dX12_counterexample_42 : decode cX12_counterexample 42 = .ok (.iload_n 2, 1) := by decide +kernel
theorem dX12_counterexample_43 : decode cX12_counterexample 43 = .ok (.iaload, 1) := by decide +kernel
theorem dX12_counterexample_44 : decode cX12_counterexample 44 = .ok (.sipush 1000, 3) := by decide +kernel
theorem dX12_counterexample_47 : decode cX12_counterexample 47 = .ok (.if_icmp .ge 45, 3) := by decide +kernel
theorem dX12_counterexample_50 : decode cX12_counterexample 50 = .ok (.aload_n 0, 1) := by decide +kernel
theorem dX12_counterexample_51 : decode cX12_counterexample 51 = .ok (.getfield 35, 3) := by decide +kernel
theorem dX12_counterexample_54 : decode cX12_counterexample 54 = .ok (.iload_n 1, 1) := by decide +kernel
theorem dX12_counterexample_55 : decode cX12_counterexample 55 = .ok (.aaload, 1) := by decide +kernel
theorem dX12_counterexample_56 : decode cX12_counterexample 56 = .ok (.iload_n 3, 1) := by decide +kernel
theorem dX12_counterexample_57 : decode cX12_counterexample 57 = .ok (.iaload, 1) := by decide +kernel
theorem dX12_counterexample_58 : decode cX12_counterexample 58 = .ok (.sipush 1000, 3) := by decide +kernel
theorem dX12_counterexample_61 : decode cX12_counterexample 61 = .ok (.if_icmp .ge 25, 3) := by decide +kernel
theorem dX12_counterexample_64 : decode cX12_counterexample 64 = .ok (.aload_n 0, 1) := by decide +kernel
theorem dX12_counterexample_65 : decode cX12_counterexample 65 = .ok (.iload_n 2, 1) := by decide +kernel
theorem dX12_counterexample_66 : decode cX12_counterexample 66 = .ok (.iload_n 3, 1) := by decide +kernel
theorem dX12_counterexample_67 : decode cX12_counterexample 67 = .ok (.invokevirtual 164, 3) := by decide +kernel
theorem dX12_counterexample_70 : decode cX12_counterexample 70 = .ok (.ifCond .ne 16, 3) := by decide +kernel
theorem dX12_counterexample_73 : decode cX12_counterexample 73 = .ok (.sipush 256, 3) := by decide +kernel
theorem dX12_counterexample_76 : decode cX12_counterexample 76 = .ok (.iload_n 1, 1) := by decide +kernel
theorem dX12_counterexample_77 : decode cX12_counterexample 77 = .ok (.imul, 1) := by decide +kernel
theorem dX12_counterexample_78 : decode cX12_counterexample 78 = .ok (.bipush 16, 2) := by decide +kernel
theorem dX12_counterexample_80 : decode cX12_counterexample 80 = .ok (.iload_n 2, 1) := by decide +kernel
theorem dX12_counterexample_81 : decode cX12_counterexample 81 = .ok (.imul, 1) := by decide +kernel
theorem dX12_counterexample_82 : decode cX12_counterexample 82 = .ok (.iadd, 1) := by decide +kernel
theorem dX12_counterexample_83 : decode cX12_counterexample 83 = .ok (.iload_n 3, 1) := by decide +kernel
theorem dX12_counterexample_84 : decode cX12_counterexample 84 = .ok (.iadd, 1) := by decide +kernel
theorem dX12_counterexample_85 : decode cX12_counterexample 85 = .ok (.ireturn, 1) := by decide +kernel
theorem dX12_counterexample_86 : decode cX12_counterexample 86 = .ok (.iinc 3 1, 3) := by decide +kernel
theorem dX12_counterexample_89 : decode cX12_counterexample 89 = .ok (.goto (-61), 3) := by decide +kernel
theorem dX12_counterexample_92 : decode cX12_counterexample 92 = .ok (.iinc 2 1, 3) := by decide +kernel
theorem dX12_counterexample_95 : decode cX12_counterexample 95 = .ok (.goto (-79), 3) := by decide +kernel
theorem dX12_counterexample_98 : decode cX12_counterexample 98 = .ok (.iinc 1 1, 3) := by decide +kernel
theorem dX12_counterexample_101 : decode cX12_counterexample 101 = .ok (.goto (-95), 3) := by decide +kernel
theorem dX12_counterexample_104 : decode cX12_counterexample 104 = .ok (.bipush (-2), 2) := by decide +kernel
theorem dX12_counterexample_106 : decode cX12_counterexample 106 = .ok (.ireturn, 1) := by decide +kernel
set_option maxRecDepth 20000 in
theorem ggX12_isConfluent_X12_counterexample : GoodIn wsX12_isConfluent wsX12_counterexample := goodIn_r _ [5, 6, 7, 8, 9, 10, 4, 11, 12, 13, 14, 15, 16, 17, 18, 19, 20, 21, 22, 23, 24, 25, 26, 27, 28, 29, 30, 31, 32, 33, 34, 35, 36, 37, 38, 39, 40, 41, 42, 43, 44, 45, 46, 47, 48, 49, 50, 51, 52, 53, 54, 55, 56, 57, 58, 59, 60, 61, 62, 63, 64, 65, 66, 67, 68, 69, 70, 71, 72, 73, 74] (by decide +kernel) (by decide +kernel)
set_option maxRecDepth 20000 in
theorem gX12_isConfluent_X12_counterexample : GoodIn wsX12_isConfluent (wsV RX12 168 RX12 yX12_counterexample wsX12_counterexample) := goodIn_app (goodIn_of _ (by decide +kernel)) ggX12_isConfluent_X12_counterexample
theorem dX12_isConfluent_0 : decode cX12_isConfluent 0 = .ok (.aload_n 0, 1) := by decide +kernel
theorem dX12_isConfluent_1 : decode cX12_isConfluent 1 = .ok (.invokevirtual 168, 3) := by decide +kernel
theorem dX12_isConfluent_4 : decode cX12_isConfluent 4 = .ok (.bipush (-2), 2) := by decide +kernel
theorem dX12_isConfluent_6 : decode cX12_isConfluent 6 = .ok (.if_icmp .ne 7, 3) := by decide +kernel
theorem dX12_isConfluent_9 : decode cX12_isConfluent 9 = .ok (.iconst 1, 1) := by decide +kernel
theorem dX12_isConfluent_10 : decode cX12_isConfluent 10 = .ok (.goto 4, 3) := by decide +kernel
theorem dX12_isConfluent_13 : decode cX12_isConfluent 13 = .ok (.iconst 0, 1) := by decide +kernel
theorem dX12_isConfluent_14 : decode cX12_isConfluent 14 = .ok (.ireturn, 1) := by decide +kernel
set_option maxRecDepth 20000 in
theorem ggX12_isLocallyConfluent_X12_findDistances : GoodIn wsX12_isLocallyConfluent wsX12_findDistances := goodIn_r _ [8, 9, 10, 1, 2, 3, 19, 20, 21, 22, 23, 24, 25, 26, 27, 28, 29, 30, 31, 32, 33, 34, 35, 36, 37, 38, 39, 40, 41, 42, 43, 44, 45, 46, 47, 48, 49, 50, 51, 52, 53, 54, 55, 56, 57, 58, 59, 60, 61, 62, 63, 64, 65, 66, 67, 68, 69, 70] (by decide +kernel) (by decide +kernel)
set_option maxRecDepth 20000 in
theorem gX12_isLocallyConfluent_X12_findDistances : GoodIn wsX12_isLocallyConfluent (wsV RX12 151 RX12 yX12_findDistances wsX12_findDistances) := goodIn_app (goodIn_of _ (by decide +kernel)) ggX12_isLocallyConfluent_X12_findDistances
set_option maxRecDepth 20000 in
theorem ggX12_isLocallyConfluent_X12_areJoinable : GoodIn wsX12_isLocallyConfluent wsX12_areJoinable := goodIn_r _ [14, 15, 16, 17, 7, 18, 9, 10, 19, 20, 21, 22, 23, 24, 25, 26, 27, 28, 29, 30, 31, 32, 33, 34, 35, 36, 37, 38, 39, 40, 41, 42, 43, 44, 45, 46, 47, 48, 49, 50, 51, 52, 53, 54, 55, 56, 57, 58, 59, 60, 61, 62, 63, 64, 65, 66, 67, 68, 69, 70] (by decide +kernel) (by decide +kernel)
set_option maxRecDepth 20000 in
theorem gX12_isLocallyConfluent_X12_areJoinable : GoodIn wsX12_isLocallyConfluent (wsV RX12 164 RX12 yX12_areJoinable wsX12_areJoinable) := goodIn_app (goodIn_of _ (by decide +kernel)) ggX12_isLocallyConfluent_X12_areJoinable
theorem dX12_isLocallyConfluent_0 : decode cX12_isLocallyConfluent 0 = .ok (.aload_n 0, 1) := by decide +kernel
theorem dX12_isLocallyConfluent_1 : decode cX12_isLocallyConfluent 1 = .ok (.invokevirtual 151, 3) := by decide +kernel
theorem dX12_isLocallyConfluent_4 : decode cX12_isLocallyConfluent 4 = .ok (.iconst 0, 1) := by decide +kernel
theorem dX12_isLocallyConfluent_5 : decode cX12_isLocallyConfluent 5 = .ok (.istore_n 1, 1) := by decide +kernel
theorem dX12_isLocallyConfluent_6 : decode cX12_isLocallyConfluent 6 = .ok (.iload_n 1, 1) := by decide +kernel
theorem dX12_isLocallyConfluent_7 : decode cX12_isLocallyConfluent 7 = .ok (.aload_n 0, 1) := by decide +kernel
theorem dX12_isLocallyConfluent_8 : decode cX12_isLocallyConfluent 8 = .ok (.getfield 135, 3) := by decide +kernel
theorem dX12_isLocallyConfluent_11 : decode cX12_isLocallyConfluent 11 = .ok (.if_icmp .ge 63, 3) := by decide +kernel
theorem dX12_isLocallyConfluent_14 : decode cX12_isLocallyConfluent 14 = .ok (.iload_n 1, 1) := by decide +kernel
theorem dX12_isLocallyConfluent_15 : decode cX12_isLocallyConfluent 15 = .ok (.iconst 1, 1) := by decide +kernel
theorem dX12_isLocallyConfluent_16 : decode cX12_isLocallyConfluent 16 = .ok (.iadd, 1) := by decide +kernel
theorem dX12_isLocallyConfluent_17 : decode cX12_isLocallyConfluent 17 = .ok (.istore_n 2, 1) := by decide +kernel
theorem dX12_isLocallyConfluent_18 : decode cX12_isLocallyConfluent 18 = .ok (.iload_n 2, 1) := by decide +kernel
theorem dX12_isLocallyConfluent_19 : decode cX12_isLocallyConfluent 19 = .ok (.aload_n 0, 1) := by decide +kernel
theorem dX12_isLocallyConfluent_20 : decode cX12_isLocallyConfluent 20 = .ok (.getfield 135, 3) := by decide +kernel
theorem dX12_isLocallyConfluent_23 : decode cX12_isLocallyConfluent 23 = .ok (.if_icmp .ge 45, 3) := by decide +kernel
theorem dX12_isLocallyConfluent_26 : decode cX12_isLocallyConfluent 26 = .ok (.aload_n 0, 1) := by decide +kernel
theorem dX12_isLocallyConfluent_27 : decode cX12_isLocallyConfluent 27 = .ok (.getfield 17, 3) := by decide +kernel
theorem dX12_isLocallyConfluent_30 : decode cX12_isLocallyConfluent 30 = .ok (.iload_n 1, 1) := by decide +kernel
theorem dX12_isLocallyConfluent_31 : decode cX12_isLocallyConfluent 31 = .ok (.iaload, 1) := by decide +kernel
theorem dX12_isLocallyConfluent_32 : decode cX12_isLocallyConfluent 32 = .ok (.aload_n 0, 1) := by decide +kernel
theorem dX12_isLocallyConfluent_33 : decode cX12_isLocallyConfluent 33 = .ok (.getfield 17, 3) := by decide +kernel
theorem dX12_isLocallyConfluent_36 : decode cX12_isLocallyConfluent 36 = .ok (.iload_n 2, 1) := by decide +kernel
theorem dX12_isLocallyConfluent_37 : decode cX12_isLocallyConfluent 37 = .ok (.iaload, 1) := by decide +kernel
theorem dX12_isLocallyConfluent_38 : decode cX12_isLocallyConfluent 38 = .ok (.if_icmp .ne 24, 3) := by decide +kernel
theorem dX12_isLocallyConfluent_41 : decode cX12_isLocallyConfluent 41 = .ok (.aload_n 0, 1) := by decide +kernel
theorem dX12_isLocallyConfluent_42 : decode cX12_isLocallyConfluent 42 = .ok (.aload_n 0, 1) := by decide +kernel
theorem dX12_isLocallyConfluent_43 : decode cX12_isLocallyConfluent 43 = .ok (.getfield 21, 3) := by decide +kernel
theorem dX12_isLocallyConfluent_46 : decode cX12_isLocallyConfluent 46 = .ok (.iload_n 1, 1) := by decide +kernel
theorem dX12_isLocallyConfluent_47 : decode cX12_isLocallyConfluent 47 = .ok (.iaload, 1) := by decide +kernel
theorem dX12_isLocallyConfluent_48 : decode cX12_isLocallyConfluent 48 = .ok (.aload_n 0, 1) := by decide +kernel
theorem dX12_isLocallyConfluent_49 : decode cX12_isLocallyConfluent 49 = .ok (.getfield 21, 3) := by decide +kernel
theorem dX12_isLocallyConfluent_52 : decode cX12_isLocallyConfluent 52 = .ok (.iload_n 2, 1) := by decide +kernel
theorem dX12_isLocallyConfluent_53 : decode cX12_isLocallyConfluent 53 = .ok (.iaload, 1) := by decide +kernel
theorem dX12_isLocallyConfluent_54 : decode cX12_isLocallyConfluent 54 = .ok (.invokevirtual 164, 3) := by decide +kernel
theorem dX12_isLocallyConfluent_57 : decode cX12_isLocallyConfluent 57 = .ok (.ifCond .ne 5, 3) := by decide +kernel
theorem dX12_isLocallyConfluent_60 : decode cX12_isLocallyConfluent 60 = .ok (.iconst 0, 1) := by decide +kernel
theorem dX12_isLocallyConfluent_61 : decode cX12_isLocallyConfluent 61 = .ok (.ireturn, 1) := by decide +kernel
theorem dX12_isLocallyConfluent_62 : decode cX12_isLocallyConfluent 62 = .ok (.iinc 2 1, 3) := by decide +kernel
theorem dX12_isLocallyConfluent_65 : decode cX12_isLocallyConfluent 65 = .ok (.goto (-47), 3) := by decide +kernel
theorem dX12_isLocallyConfluent_68 : decode cX12_isLocallyConfluent 68 = .ok (.iinc 1 1, 3) := by decide +kernel
theorem dX12_isLocallyConfluent_71 : decode cX12_isLocallyConfluent 71 = .ok (.goto (-65), 3) := by decide +kernel
theorem dX12_isLocallyConfluent_74 : decode cX12_isLocallyConfluent 74 = .ok (.iconst 1, 1) := by decide +kernel
theorem dX12_isLocallyConfluent_75 : decode cX12_isLocallyConfluent 75 = .ok (.ireturn, 1) := by decide +kernel
theorem dX12_findPeak_0 : decode cX12_findPeak 0 = .ok (.iconst 0, 1) := by decide +kernel
theorem dX12_findPeak_1 : decode cX12_findPeak 1 = .ok (.istore_n 2, 1) := by decide +kernel
theorem dX12_findPeak_2 : decode cX12_findPeak 2 = .ok (.iconst 0, 1) := by decide +kernel
theorem dX12_findPeak_3 : decode cX12_findPeak 3 = .ok (.istore_n 3, 1) := by decide +kernel
theorem dX12_findPeak_4 : decode cX12_findPeak 4 = .ok (.iload_n 3, 1) := by decide +kernel
theorem dX12_findPeak_5 : decode cX12_findPeak 5 = .ok (.aload_n 0, 1) := by decide +kernel
theorem dX12_findPeak_6 : decode cX12_findPeak 6 = .ok (.getfield 135, 3) := by decide +kernel
theorem dX12_findPeak_9 : decode cX12_findPeak 9 = .ok (.if_icmp .ge 66, 3) := by decide +kernel
theorem dX12_findPeak_12 : decode cX12_findPeak 12 = .ok (.iload_n 3, 1) := by decide +kernel
theorem dX12_findPeak_13 : decode cX12_findPeak 13 = .ok (.iconst 1, 1) := by decide +kernel
theorem dX12_findPeak_14 : decode cX12_findPeak 14 = .ok (.iadd, 1) := by decide +kernel
theorem dX12_findPeak_15 : decode cX12_findPeak 15 = .ok (.istore 4, 2) := by decide +kernel
theorem dX12_findPeak_17 : decode cX12_findPeak 17 = .ok (.iload 4, 2) := by decide +kernel
theorem dX12_findPeak_19 : decode cX12_findPeak 19 = .ok (.aload_n 0, 1) := by decide +kernel
theorem dX12_findPeak_20 : decode cX12_findPeak 20 = .ok (.getfield 135, 3) := by decide +kernel
theorem dX12_findPeak_23 : decode cX12_findPeak 23 = .ok (.if_icmp .ge 46, 3) := by decide +kernel
theorem dX12_findPeak_26 : decode cX12_findPeak 26 = .ok (.aload_n 0, 1) := by decide +kernel
theorem dX12_findPeak_27 : decode cX12_findPeak 27 = .ok (.getfield 17, 3) := by decide +kernel
theorem dX12_findPeak_30 : decode cX12_findPeak 30 = .ok (.iload_n 3, 1) := by decide +kernel
theorem dX12_findPeak_31 : decode cX12_findPeak 31 = .ok (.iaload, 1) := by decide +kernel
theorem dX12_findPeak_32 : decode cX12_findPeak 32 = .ok (.aload_n 0, 1) := by decide +kernel
theorem dX12_findPeak_33 : decode cX12_findPeak 33 = .ok (.getfield 17, 3) := by decide +kernel
theorem dX12_findPeak_36 : decode cX12_findPeak 36 = .ok (.iload 4, 2) := by decide +kernel
theorem dX12_findPeak_38 : decode cX12_findPeak 38 = .ok (.iaload, 1) := by decide +kernel
theorem dX12_findPeak_39 : decode cX12_findPeak 39 = .ok (.if_icmp .ne 24, 3) := by decide +kernel
theorem dX12_findPeak_42 : decode cX12_findPeak 42 = .ok (.iload_n 2, 1) := by decide +kernel
theorem dX12_findPeak_43 : decode cX12_findPeak 43 = .ok (.iload_n 1, 1) := by decide +kernel
theorem dX12_findPeak_44 : decode cX12_findPeak 44 = .ok (.if_icmp .ne 16, 3) := by decide +kernel
theorem dX12_findPeak_47 : decode cX12_findPeak 47 = .ok (.aload_n 0, 1) := by decide +kernel
theorem dX12_findPeak_48 : decode cX12_findPeak 48 = .ok (.iload_n 3, 1) := by decide +kernel
theorem dX12_findPeak_49 : decode cX12_findPeak 49 = .ok (.putfield 172, 3) := by decide +kernel
theorem dX12_findPeak_52 : decode cX12_findPeak 52 = .ok (.aload_n 0, 1) := by decide +kernel
theorem dX12_findPeak_53 : decode cX12_findPeak 53 = .ok (.iload 4, 2) := by decide +kernel
theorem dX12_findPeak_55 : decode cX12_findPeak 55 = .ok (.putfield 175, 3) := by decide +kernel
theorem dX12_findPeak_58 : decode cX12_findPeak 58 = .ok (.iconst 1, 1) := by decide +kernel
theorem dX12_findPeak_59 : decode cX12_findPeak 59 = .ok (.ireturn, 1) := by decide +kernel
theorem dX12_findPeak_60 : decode cX12_findPeak 60 = .ok (.iinc 2 1, 3) := by decide +kernel
theorem dX12_findPeak_63 : decode cX12_findPeak 63 = .ok (.iinc 4 1, 3) := by decide +kernel
theorem dX12_findPeak_66 : decode cX12_findPeak 66 = .ok (.goto (-49), 3) := by decide +kernel
theorem dX12_findPeak_69 : decode cX12_findPeak 69 = .ok (.iinc 3 1, 3) := by decide +kernel
theorem dX12_findPeak_72 : decode cX12_findPeak 72 = .ok (.goto (-68), 3) := by decide +kernel
theorem dX12_findPeak_75 : decode cX12_findPeak 75 = .ok (.iconst 0, 1) := by decide +kernel
theorem dX12_findPeak_76 : decode cX12_findPeak 76 = .ok (.ireturn, 1) := by decide +kernel
set_option maxRecDepth 20000 in
theorem ggX12_peakCount_X12_findPeak : GoodIn wsX12_peakCount wsX12_findPeak := goodIn_r _ [5, 6, 7, 8, 9, 10, 11, 12, 13, 14, 15, 16, 17, 18, 19, 20, 21, 22, 23, 24, 25, 26, 27, 28, 29, 30, 31, 32, 33, 34, 35, 36, 37, 38, 39, 40, 41, 42, 43, 44, 45, 46, 47, 48, 49, 50, 51, 52, 53, 54, 55, 56, 57, 58, 59, 60, 61] (by decide +kernel) (by decide +kernel)
set_option maxRecDepth 20000 in
theorem gX12_peakCount_X12_findPeak : GoodIn wsX12_peakCount (wsV RX12 178 RX12 yX12_findPeak wsX12_findPeak) := goodIn_app (goodIn_of _ (by decide +kernel)) ggX12_peakCount_X12_findPeak
theorem dX12_peakCount_0 : decode cX12_peakCount 0 = .ok (.iconst 0, 1) := by decide +kernel
theorem dX12_peakCount_1 : decode cX12_peakCount 1 = .ok (.istore_n 1, 1) := by decide +kernel
theorem dX12_peakCount_2 : decode cX12_peakCount 2 = .ok (.aload_n 0, 1) := by decide +kernel
theorem dX12_peakCount_3 : decode cX12_peakCount 3 = .ok (.iload_n 1, 1) := by decide +kernel
theorem dX12_peakCount_4 : decode cX12_peakCount 4 = .ok (.invokevirtual 178, 3) := by decide +kernel
theorem dX12_peakCount_7 : decode cX12_peakCount 7 = .ok (.ifCond .eq 9, 3) := by decide +kernel
theorem dX12_peakCount_10 : decode cX12_peakCount 10 = .ok (.iinc 1 1, 3) := by decide +kernel
theorem dX12_peakCount_13 : decode cX12_peakCount 13 = .ok (.goto (-11), 3) := by decide +kernel
theorem dX12_peakCount_16 : decode cX12_peakCount 16 = .ok (.iload_n 1, 1) := by decide +kernel
theorem dX12_peakCount_17 : decode cX12_peakCount 17 = .ok (.ireturn, 1) := by decide +kernel
set_option maxRecDepth 20000 in
theorem ggX12_isSide_X12_isBetween : GoodIn wsX12_isSide wsX12_isBetween := goodIn_r _ [4] (by decide +kernel) (by decide +kernel)
set_option maxRecDepth 20000 in
theorem gX12_isSide_X12_isBetween : GoodIn wsX12_isSide (va_wsS RX12 128 yX12_isBetween wsX12_isBetween) := goodIn_app (goodIn_of _ (by decide +kernel)) ggX12_isSide_X12_isBetween
theorem dX12_isSide_0 : decode cX12_isSide 0 = .ok (.iload_n 0, 1) := by decide +kernel
theorem dX12_isSide_1 : decode cX12_isSide 1 = .ok (.iconst 0, 1) := by decide +kernel
theorem dX12_isSide_2 : decode cX12_isSide 2 = .ok (.iconst 1, 1) := by decide +kernel
theorem dX12_isSide_3 : decode cX12_isSide 3 = .ok (.invokestatic 128, 3) := by decide +kernel
theorem dX12_isSide_6 : decode cX12_isSide 6 = .ok (.ireturn, 1) := by decide +kernel
set_option maxRecDepth 20000 in
theorem ggX12_peakStep_X12_findPeak : GoodIn wsX12_peakStep wsX12_findPeak := goodIn_r _ [7, 8, 9, 1, 2, 16, 17, 18, 19, 20, 21, 22, 23, 24, 25, 26, 27, 28, 29, 30, 31, 32, 33, 34, 35, 36, 37, 38, 39, 40, 41, 42, 43, 44, 45, 46, 47, 48, 49, 50, 51, 52, 53, 54, 55, 56, 57, 58, 59, 60, 61, 62, 63, 64, 65, 66, 67] (by decide +kernel) (by decide +kernel)
set_option maxRecDepth 20000 in
theorem gX12_peakStep_X12_findPeak : GoodIn wsX12_peakStep (wsV RX12 178 RX12 yX12_findPeak wsX12_findPeak) := goodIn_app (goodIn_of _ (by decide +kernel)) ggX12_peakStep_X12_findPeak
set_option maxRecDepth 20000 in
theorem ggX12_peakStep_X12_isSide : GoodIn wsX12_peakStep wsX12_isSide := goodIn_r _ [12, 13, 14, 6, 15] (by decide +kernel) (by decide +kernel)
set_option maxRecDepth 20000 in
theorem gX12_peakStep_X12_isSide : GoodIn wsX12_peakStep (va_wsS RX12 181 yX12_isSide wsX12_isSide) := goodIn_app (goodIn_of _ (by decide +kernel)) ggX12_peakStep_X12_isSide
theorem dX12_peakStep_0 : decode cX12_peakStep 0 = .ok (.aload_n 0, 1) := by decide +kernel
theorem dX12_peakStep_1 : decode cX12_peakStep 1 = .ok (.iload_n 1, 1) := by decide +kernel
theorem dX12_peakStep_2 : decode cX12_peakStep 2 = .ok (.invokevirtual 178, 3) := by decide +kernel
theorem dX12_peakStep_5 : decode cX12_peakStep 5 = .ok (.ifCond .eq 10, 3) := by decide +kernel
theorem dX12_peakStep_8 : decode cX12_peakStep 8 = .ok (.iload_n 2, 1) := by decide +kernel
theorem dX12_peakStep_9 : decode cX12_peakStep 9 = .ok (.invokestatic 181, 3) := by decide +kernel
theorem dX12_peakStep_12 : decode cX12_peakStep 12 = .ok (.ifCond .ne 5, 3) := by decide +kernel
theorem dX12_peakStep_15 : decode cX12_peakStep 15 = .ok (.iconst (-1), 1) := by decide +kernel
theorem dX12_peakStep_16 : decode cX12_peakStep 16 = .ok (.ireturn, 1) := by decide +kernel
theorem dX12_peakStep_17 : decode cX12_peakStep 17 = .ok (.iload_n 2, 1) := by decide +kernel
theorem dX12_peakStep_18 : decode cX12_peakStep 18 = .ok (.ifCond .ne 10, 3) := by decide +kernel
theorem dX12_peakStep_21 : decode cX12_peakStep 21 = .ok (.aload_n 0, 1) := by decide +kernel
theorem dX12_peakStep_22 : decode cX12_peakStep 22 = .ok (.getfield 172, 3) := by decide +kernel
theorem dX12_peakStep_25 : decode cX12_peakStep 25 = .ok (.goto 7, 3) := by decide +kernel
theorem dX12_peakStep_28 : decode cX12_peakStep 28 = .ok (.aload_n 0, 1) := by decide +kernel
theorem dX12_peakStep_29 : decode cX12_peakStep 29 = .ok (.getfield 175, 3) := by decide +kernel
theorem dX12_peakStep_32 : decode cX12_peakStep 32 = .ok (.ireturn, 1) := by decide +kernel
theorem dX12_leads_0 : decode cX12_leads 0 = .ok (.aload_n 0, 1) := by decide +kernel
theorem dX12_leads_1 : decode cX12_leads 1 = .ok (.getfield 14, 3) := by decide +kernel
theorem dX12_leads_4 : decode cX12_leads 4 = .ok (.iload 4, 2) := by decide +kernel
theorem dX12_leads_6 : decode cX12_leads 6 = .ok (.aaload, 1) := by decide +kernel
theorem dX12_leads_7 : decode cX12_leads 7 = .ok (.aload_n 0, 1) := by decide +kernel
theorem dX12_leads_8 : decode cX12_leads 8 = .ok (.getfield 24, 3) := by decide +kernel
theorem dX12_leads_11 : decode cX12_leads 11 = .ok (.iload_n 1, 1) := by decide +kernel
theorem dX12_leads_12 : decode cX12_leads 12 = .ok (.iaload, 1) := by decide +kernel
theorem dX12_leads_13 : decode cX12_leads 13 = .ok (.baload, 1) := by decide +kernel
theorem dX12_leads_14 : decode cX12_leads 14 = .ok (.istore 6, 2) := by decide +kernel
theorem dX12_leads_16 : decode cX12_leads 16 = .ok (.iload_n 2, 1) := by decide +kernel
theorem dX12_leads_17 : decode cX12_leads 17 = .ok (.ifCond .ne 10, 3) := by decide +kernel
theorem dX12_leads_20 : decode cX12_leads 20 = .ok (.iload_n 3, 1) := by decide +kernel
theorem dX12_leads_21 : decode cX12_leads 21 = .ok (.ifCond .ne 6, 3) := by decide +kernel
theorem dX12_leads_24 : decode cX12_leads 24 = .ok (.iload 6, 2) := by decide +kernel
theorem dX12_leads_26 : decode cX12_leads 26 = .ok (.ireturn, 1) := by decide +kernel
theorem dX12_leads_27 : decode cX12_leads 27 = .ok (.iload_n 2, 1) := by decide +kernel
theorem dX12_leads_28 : decode cX12_leads 28 = .ok (.ifCond .ne 18, 3) := by decide +kernel
theorem dX12_leads_31 : decode cX12_leads 31 = .ok (.aload_n 0, 1) := by decide +kernel
theorem dX12_leads_32 : decode cX12_leads 32 = .ok (.getfield 24, 3) := by decide +kernel
theorem dX12_leads_35 : decode cX12_leads 35 = .ok (.iload_n 1, 1) := by decide +kernel
theorem dX12_leads_36 : decode cX12_leads 36 = .ok (.iaload, 1) := by decide +kernel
theorem dX12_leads_37 : decode cX12_leads 37 = .ok (.iload 5, 2) := by decide +kernel
theorem dX12_leads_39 : decode cX12_leads 39 = .ok (.if_icmp .ne 7, 3) := by decide +kernel
theorem dX12_leads_42 : decode cX12_leads 42 = .ok (.iconst 1, 1) := by decide +kernel
theorem dX12_leads_43 : decode cX12_leads 43 = .ok (.goto 4, 3) := by decide +kernel
theorem dX12_leads_46 : decode cX12_leads 46 = .ok (.iconst 0, 1) := by decide +kernel
theorem dX12_leads_47 : decode cX12_leads 47 = .ok (.istore 7, 2) := by decide +kernel
theorem dX12_leads_49 : decode cX12_leads 49 = .ok (.iload_n 3, 1) := by decide +kernel
theorem dX12_leads_50 : decode cX12_leads 50 = .ok (.iconst 1, 1) := by decide +kernel
theorem dX12_leads_51 : decode cX12_leads 51 = .ok (.if_icmp .ne 34, 3) := by decide +kernel
theorem dX12_leads_54 : decode cX12_leads 54 = .ok (.iload 6, 2) := by decide +kernel
theorem dX12_leads_56 : decode cX12_leads 56 = .ok (.ifCond .ne 25, 3) := by decide +kernel
theorem dX12_leads_59 : decode cX12_leads 59 = .ok (.aload_n 0, 1) := by decide +kernel
theorem dX12_leads_60 : decode cX12_leads 60 = .ok (.getfield 14, 3) := by decide +kernel
theorem dX12_leads_63 : decode cX12_leads 63 = .ok (.iload 5, 2) := by decide +kernel
theorem dX12_leads_65 : decode cX12_leads 65 = .ok (.aaload, 1) := by decide +kernel
theorem dX12_leads_66 : decode cX12_leads 66 = .ok (.aload_n 0, 1) := by decide +kernel
theorem dX12_leads_67 : decode cX12_leads 67 = .ok (.getfield 24, 3) := by decide +kernel
theorem dX12_leads_70 : decode cX12_leads 70 = .ok (.iload_n 1, 1) := by decide +kernel
theorem dX12_leads_71 : decode cX12_leads 71 = .ok (.iaload, 1) := by decide +kernel
theorem dX12_leads_72 : decode cX12_leads 72 = .ok (.baload, 1) := by decide +kernel
theorem dX12_leads_73 : decode cX12_leads 73 = .ok (.ifCond .ne 8, 3) := by decide +kernel
theorem dX12_leads_76 : decode cX12_leads 76 = .ok (.iload 7, 2) := by decide +kernel
theorem dX12_leads_78 : decode cX12_leads 78 = .ok (.ifCond .eq 7, 3) := by decide +kernel
theorem dX12_leads_81 : decode cX12_leads 81 = .ok (.iconst 1, 1) := by decide +kernel
theorem dX12_leads_82 : decode cX12_leads 82 = .ok (.goto 4, 3) := by decide +kernel
theorem dX12_leads_85 : decode cX12_leads 85 = .ok (.iconst 0, 1) := by decide +kernel
theorem dX12_leads_86 : decode cX12_leads 86 = .ok (.ireturn, 1) := by decide +kernel
theorem dX12_stepOf_0 : decode cX12_stepOf 0 = .ok (.iload_n 1, 1) := by decide +kernel
theorem dX12_stepOf_1 : decode cX12_stepOf 1 = .ok (.ifCond .ne 10, 3) := by decide +kernel
theorem dX12_stepOf_4 : decode cX12_stepOf 4 = .ok (.aload_n 0, 1) := by decide +kernel
theorem dX12_stepOf_5 : decode cX12_stepOf 5 = .ok (.getfield 172, 3) := by decide +kernel
theorem dX12_stepOf_8 : decode cX12_stepOf 8 = .ok (.goto 7, 3) := by decide +kernel
theorem dX12_stepOf_11 : decode cX12_stepOf 11 = .ok (.aload_n 0, 1) := by decide +kernel
theorem dX12_stepOf_12 : decode cX12_stepOf 12 = .ok (.getfield 175, 3) := by decide +kernel
theorem dX12_stepOf_15 : decode cX12_stepOf 15 = .ok (.ireturn, 1) := by decide +kernel
set_option maxRecDepth 20000 in
theorem ggX12_findSide_X12_stepOf : GoodIn wsX12_findSide wsX12_stepOf := goodIn_r _ [10, 11, 12, 18, 19, 20, 21, 22, 23, 24, 25, 26, 27, 28, 29, 30, 31, 32, 33, 34, 35, 36, 37, 38, 39, 40, 41, 42, 43, 44, 45, 46, 47, 48, 49, 50, 51, 52, 53, 54, 55, 56, 57, 58, 59, 60, 61, 62, 63, 64, 65, 66, 67, 68, 69] (by decide +kernel) (by decide +kernel)
set_option maxRecDepth 20000 in
theorem gX12_findSide_X12_stepOf : GoodIn wsX12_findSide (wsV RX12 184 RX12 yX12_stepOf wsX12_stepOf) := goodIn_app (goodIn_of _ (by decide +kernel)) ggX12_findSide_X12_stepOf
set_option maxRecDepth 20000 in
theorem ggX12_findSide_X12_leads : GoodIn wsX12_findSide wsX12_leads := goodIn_r _ [16, 17, 1, 18, 19, 20, 21, 22, 23, 24, 25, 26, 27, 28, 29, 30, 31, 32, 33, 34, 35, 36, 37, 38, 39, 40, 41, 42, 43, 44, 45, 46, 47, 48, 49, 50, 51, 52, 53, 54, 55, 56, 57, 58, 59, 60, 61, 62, 63, 64, 65, 66, 67, 68, 69] (by decide +kernel) (by decide +kernel)
set_option maxRecDepth 20000 in
theorem gX12_findSide_X12_leads : GoodIn wsX12_findSide (wsV RX12 187 RX12 yX12_leads wsX12_leads) := goodIn_app (goodIn_of _ (by decide +kernel)) ggX12_findSide_X12_leads
theorem dX12_findSide_0 : decode cX12_findSide 0 = .ok (.aload_n 0, 1) := by decide +kernel
theorem dX12_findSide_1 : decode cX12_findSide 1 = .ok (.getfield 24, 3) := by decide +kernel
theorem dX12_findSide_4 : decode cX12_findSide 4 = .ok (.aload_n 0, 1) := by decide +kernel
theorem dX12_findSide_5 : decode cX12_findSide 5 = .ok (.iload_n 1, 1) := by decide +kernel
theorem dX12_findSide_6 : decode cX12_findSide 6 = .ok (.invokevirtual 184, 3) := by decide +kernel
theorem dX12_findSide_9 : decode cX12_findSide 9 = .ok (.iaload, 1) := by decide +kernel
theorem dX12_findSide_10 : decode cX12_findSide 10 = .ok (.istore_n 2, 1) := by decide +kernel
theorem dX12_findSide_11 : decode cX12_findSide 11 = .ok (.aload_n 0, 1) := by decide +kernel
theorem dX12_findSide_12 : decode cX12_findSide 12 = .ok (.getfield 24, 3) := by decide +kernel
theorem dX12_findSide_15 : decode cX12_findSide 15 = .ok (.aload_n 0, 1) := by decide +kernel
theorem dX12_findSide_16 : decode cX12_findSide 16 = .ok (.iconst 1, 1) := by decide +kernel
theorem dX12_findSide_17 : decode cX12_findSide 17 = .ok (.iload_n 1, 1) := by decide +kernel
theorem dX12_findSide_18 : decode cX12_findSide 18 = .ok (.isub, 1) := by decide +kernel
theorem dX12_findSide_19 : decode cX12_findSide 19 = .ok (.invokevirtual 184, 3) := by decide +kernel
theorem dX12_findSide_22 : decode cX12_findSide 22 = .ok (.iaload, 1) := by decide +kernel
theorem dX12_findSide_23 : decode cX12_findSide 23 = .ok (.istore_n 3, 1) := by decide +kernel
theorem dX12_findSide_24 : decode cX12_findSide 24 = .ok (.aload_n 0, 1) := by decide +kernel
theorem dX12_findSide_25 : decode cX12_findSide 25 = .ok (.getfield 41, 3) := by decide +kernel
theorem dX12_findSide_28 : decode cX12_findSide 28 = .ok (.iload_n 1, 1) := by decide +kernel
theorem dX12_findSide_29 : decode cX12_findSide 29 = .ok (.aaload, 1) := by decide +kernel
theorem dX12_findSide_30 : decode cX12_findSide 30 = .ok (.astore 4, 2) := by decide +kernel
theorem dX12_findSide_32 : decode cX12_findSide 32 = .ok (.iconst 0, 1) := by decide +kernel
theorem dX12_findSide_33 : decode cX12_findSide 33 = .ok (.istore 5, 2) := by decide +kernel
theorem dX12_findSide_35 : decode cX12_findSide 35 = .ok (.iload 5, 2) := by decide +kernel
theorem dX12_findSide_37 : decode cX12_findSide 37 = .ok (.bipush 32, 2) := by decide +kernel
theorem dX12_findSide_39 : decode cX12_findSide 39 = .ok (.if_icmp .ge 17, 3) := by decide +kernel
theorem dX12_findSide_42 : decode cX12_findSide 42 = .ok (.aload 4, 2) := by decide +kernel
theorem dX12_findSide_44 : decode cX12_findSide 44 = .ok (.iload 5, 2) := by decide +kernel
theorem dX12_findSide_46 : decode cX12_findSide 46 = .ok (.sipush 1000, 3) := by decide +kernel
theorem dX12_findSide_49 : decode cX12_findSide 49 = .ok (.iastore, 1) := by decide +kernel
theorem dX12_findSide_50 : decode cX12_findSide 50 = .ok (.iinc 5 1, 3) := by decide +kernel
theorem dX12_findSide_53 : decode cX12_findSide 53 = .ok (.goto (-18), 3) := by decide +kernel
theorem dX12_findSide_56 : decode cX12_findSide 56 = .ok (.aload 4, 2) := by decide +kernel
theorem dX12_findSide_58 : decode cX12_findSide 58 = .ok (.iconst 2, 1) := by decide +kernel
theorem dX12_findSide_59 : decode cX12_findSide 59 = .ok (.aload_n 0, 1) := by decide +kernel
theorem dX12_findSide_60 : decode cX12_findSide 60 = .ok (.getfield 21, 3) := by decide +kernel
theorem dX12_findSide_63 : decode cX12_findSide 63 = .ok (.aload_n 0, 1) := by decide +kernel
theorem dX12_findSide_64 : decode cX12_findSide 64 = .ok (.iload_n 1, 1) := by decide +kernel
theorem dX12_findSide_65 : decode cX12_findSide 65 = .ok (.invokevirtual 184, 3) := by decide +kernel
theorem dX12_findSide_68 : decode cX12_findSide 68 = .ok (.iaload, 1) := by decide +kernel
theorem dX12_findSide_69 : decode cX12_findSide 69 = .ok (.imul, 1) := by decide +kernel
theorem dX12_findSide_70 : decode cX12_findSide 70 = .ok (.iconst 0, 1) := by decide +kernel
theorem dX12_findSide_71 : decode cX12_findSide 71 = .ok (.iastore, 1) := by decide +kernel
theorem dX12_findSide_72 : decode cX12_findSide 72 = .ok (.iconst 1, 1) := by decide +kernel
theorem dX12_findSide_73 : decode cX12_findSide 73 = .ok (.istore 5, 2) := by decide +kernel
theorem dX12_findSide_75 : decode cX12_findSide 75 = .ok (.iload 5, 2) := by decide +kernel
theorem dX12_findSide_77 : decode cX12_findSide 77 = .ok (.ifCond .eq 123, 3) := by decide +kernel
theorem dX12_findSide_80 : decode cX12_findSide 80 = .ok (.iconst 0, 1) := by decide +kernel
theorem dX12_findSide_81 : decode cX12_findSide 81 = .ok (.istore 5, 2) := by decide +kernel
theorem dX12_findSide_83 : decode cX12_findSide 83 = .ok (.iconst 0, 1) := by decide +kernel
theorem dX12_findSide_84 : decode cX12_findSide 84 = .ok (.istore 6, 2) := by decide +kernel
theorem dX12_findSide_86 : decode cX12_findSide 86 = .ok (.iload 6, 2) := by decide +kernel
theorem dX12_findSide_88 : decode cX12_findSide 88 = .ok (.aload_n 0, 1) := by decide +kernel
theorem dX12_findSide_89 : decode cX12_findSide 89 = .ok (.getfield 135, 3) := by decide +kernel
theorem dX12_findSide_92 : decode cX12_findSide 92 = .ok (.if_icmp .ge 105, 3) := by decide +kernel
theorem dX12_findSide_95 : decode cX12_findSide 95 = .ok (.iconst 0, 1) := by decide +kernel
theorem dX12_findSide_96 : decode cX12_findSide 96 = .ok (.istore 7, 2) := by decide +kernel
theorem dX12_findSide_98 : decode cX12_findSide 98 = .ok (.iload 7, 2) := by decide +kernel
theorem dX12_findSide_100 : decode cX12_findSide 100 = .ok (.iconst 4, 1) := by decide +kernel
theorem dX12_findSide_101 : decode cX12_findSide 101 = .ok (.if_icmp .ge 90, 3) := by decide +kernel
theorem dX12_findSide_104 : decode cX12_findSide 104 = .ok (.iconst 2, 1) := by decide +kernel
theorem dX12_findSide_105 : decode cX12_findSide 105 = .ok (.aload_n 0, 1) := by decide +kernel
theorem dX12_findSide_106 : decode cX12_findSide 106 = .ok (.getfield 17, 3) := by decide +kernel
theorem dX12_findSide_109 : decode cX12_findSide 109 = .ok (.iload 6, 2) := by decide +kernel
theorem dX12_findSide_111 : decode cX12_findSide 111 = .ok (.iaload, 1) := by decide +kernel
theorem dX12_findSide_112 : decode cX12_findSide 112 = .ok (.imul, 1) := by decide +kernel
theorem dX12_findSide_113 : decode cX12_findSide 113 = .ok (.iload 7, 2) := by decide +kernel
theorem dX12_findSide_115 : decode cX12_findSide 115 = .ok (.iconst 2, 1) := by decide +kernel
theorem dX12_findSide_116 : decode cX12_findSide 116 = .ok (.idiv, 1) := by decide +kernel
theorem dX12_findSide_117 : decode cX12_findSide 117 = .ok (.iadd, 1) := by decide +kernel
theorem dX12_findSide_118 : decode cX12_findSide 118 = .ok (.istore 8, 2) := by decide +kernel
theorem dX12_findSide_120 : decode cX12_findSide 120 = .ok (.iconst 2, 1) := by decide +kernel
theorem dX12_findSide_121 : decode cX12_findSide 121 = .ok (.aload_n 0, 1) := by decide +kernel
theorem dX12_findSide_122 : decode cX12_findSide 122 = .ok (.getfield 21, 3) := by decide +kernel
theorem dX12_findSide_125 : decode cX12_findSide 125 = .ok (.iload 6, 2) := by decide +kernel
theorem dX12_findSide_127 : decode cX12_findSide 127 = .ok (.iaload, 1) := by decide +kernel
theorem dX12_findSide_128 : decode cX12_findSide 128 = .ok (.imul, 1) := by decide +kernel
theorem dX12_findSide_129 : decode cX12_findSide 129 = .ok (.iload 7, 2) := by decide +kernel
theorem dX12_findSide_131 : decode cX12_findSide 131 = .ok (.iconst 2, 1) := by decide +kernel
theorem dX12_findSide_132 : decode cX12_findSide 132 = .ok (.irem, 1) := by decide +kernel
theorem dX12_findSide_133 : decode cX12_findSide 133 = .ok (.iadd, 1) := by decide +kernel
theorem dX12_findSide_134 : decode cX12_findSide 134 = .ok (.istore 9, 2) := by decide +kernel
theorem dX12_findSide_136 : decode cX12_findSide 136 = .ok (.aload 4, 2) := by decide +kernel
theorem dX12_findSide_138 : decode cX12_findSide 138 = .ok (.iload 8, 2) := by decide +kernel
theorem dX12_findSide_140 : decode cX12_findSide 140 = .ok (.iaload, 1) := by decide +kernel
theorem dX12_findSide_141 : decode cX12_findSide 141 = .ok (.iconst 1, 1) := by decide +kernel
theorem dX12_findSide_142 : decode cX12_findSide 142 = .ok (.iadd, 1) := by decide +kernel
theorem dX12_findSide_143 : decode cX12_findSide 143 = .ok (.aload 4, 2) := by decide +kernel
theorem dX12_findSide_145 : decode cX12_findSide 145 = .ok (.iload 9, 2) := by decide +kernel
theorem dX12_findSide_147 : decode cX12_findSide 147 = .ok (.iaload, 1) := by decide +kernel
theorem dX12_findSide_148 : decode cX12_findSide 148 = .ok (.if_icmp .ge 37, 3) := by decide +kernel
theorem dX12_findSide_151 : decode cX12_findSide 151 = .ok (.aload_n 0, 1) := by decide +kernel
theorem dX12_findSide_152 : decode cX12_findSide 152 = .ok (.iload 6, 2) := by decide +kernel
theorem dX12_findSide_154 : decode cX12_findSide 154 = .ok (.iload 7, 2) := by decide +kernel
theorem dX12_findSide_156 : decode cX12_findSide 156 = .ok (.iconst 2, 1) := by decide +kernel
theorem dX12_findSide_157 : decode cX12_findSide 157 = .ok (.idiv, 1) := by decide +kernel
theorem dX12_findSide_158 : decode cX12_findSide 158 = .ok (.iload 7, 2) := by decide +kernel
theorem dX12_findSide_160 : decode cX12_findSide 160 = .ok (.iconst 2, 1) := by decide +kernel
theorem dX12_findSide_161 : decode cX12_findSide 161 = .ok (.irem, 1) := by decide +kernel
theorem dX12_findSide_162 : decode cX12_findSide 162 = .ok (.iload_n 2, 1) := by decide +kernel
theorem dX12_findSide_163 : decode cX12_findSide 163 = .ok (.iload_n 3, 1) := by decide +kernel
theorem dX12_findSide_164 : decode cX12_findSide 164 = .ok (.invokevirtual 187, 3) := by decide +kernel
theorem dX12_findSide_167 : decode cX12_findSide 167 = .ok (.ifCond .eq 18, 3) := by decide +kernel
theorem dX12_findSide_170 : decode cX12_findSide 170 = .ok (.aload 4, 2) := by decide +kernel
theorem dX12_findSide_172 : decode cX12_findSide 172 = .ok (.iload 9, 2) := by decide +kernel
theorem dX12_findSide_174 : decode cX12_findSide 174 = .ok (.aload 4, 2) := by decide +kernel
theorem dX12_findSide_176 : decode cX12_findSide 176 = .ok (.iload 8, 2) := by decide +kernel
theorem dX12_findSide_178 : decode cX12_findSide 178 = .ok (.iaload, 1) := by decide +kernel
theorem dX12_findSide_179 : decode cX12_findSide 179 = .ok (.iconst 1, 1) := by decide +kernel
theorem dX12_findSide_180 : decode cX12_findSide 180 = .ok (.iadd, 1) := by decide +kernel
theorem dX12_findSide_181 : decode cX12_findSide 181 = .ok (.iastore, 1) := by decide +kernel
theorem dX12_findSide_182 : decode cX12_findSide 182 = .ok (.iconst 1, 1) := by decide +kernel
theorem dX12_findSide_183 : decode cX12_findSide 183 = .ok (.istore 5, 2) := by decide +kernel
theorem dX12_findSide_185 : decode cX12_findSide 185 = .ok (.iinc 7 1, 3) := by decide +kernel
theorem dX12_findSide_188 : decode cX12_findSide 188 = .ok (.goto (-90), 3) := by decide +kernel
theorem dX12_findSide_191 : decode cX12_findSide 191 = .ok (.iinc 6 1, 3) := by decide +kernel
theorem dX12_findSide_194 : decode cX12_findSide 194 = .ok (.goto (-108), 3) := by decide +kernel
theorem dX12_findSide_197 : decode cX12_findSide 197 = .ok (.goto (-122), 3) := by decide +kernel
theorem dX12_findSide_200 : decode cX12_findSide 200 = .ok (.return_, 1) := by decide +kernel
theorem dX12_lengthTo_0 : decode cX12_lengthTo 0 = .ok (.aload_n 0, 1) := by decide +kernel
theorem dX12_lengthTo_1 : decode cX12_lengthTo 1 = .ok (.getfield 41, 3) := by decide +kernel
theorem dX12_lengthTo_4 : decode cX12_lengthTo 4 = .ok (.iload_n 1, 1) := by decide +kernel
theorem dX12_lengthTo_5 : decode cX12_lengthTo 5 = .ok (.aaload, 1) := by decide +kernel
theorem dX12_lengthTo_6 : decode cX12_lengthTo 6 = .ok (.iconst 2, 1) := by decide +kernel
theorem dX12_lengthTo_7 : decode cX12_lengthTo 7 = .ok (.iload_n 2, 1) := by decide +kernel
theorem dX12_lengthTo_8 : decode cX12_lengthTo 8 = .ok (.imul, 1) := by decide +kernel
theorem dX12_lengthTo_9 : decode cX12_lengthTo 9 = .ok (.iaload, 1) := by decide +kernel
theorem dX12_lengthTo_10 : decode cX12_lengthTo 10 = .ok (.istore_n 3, 1) := by decide +kernel
theorem dX12_lengthTo_11 : decode cX12_lengthTo 11 = .ok (.aload_n 0, 1) := by decide +kernel
theorem dX12_lengthTo_12 : decode cX12_lengthTo 12 = .ok (.getfield 41, 3) := by decide +kernel
theorem dX12_lengthTo_15 : decode cX12_lengthTo 15 = .ok (.iload_n 1, 1) := by decide +kernel
theorem dX12_lengthTo_16 : decode cX12_lengthTo 16 = .ok (.aaload, 1) := by decide +kernel
theorem dX12_lengthTo_17 : decode cX12_lengthTo 17 = .ok (.iconst 2, 1) := by decide +kernel
theorem dX12_lengthTo_18 : decode cX12_lengthTo 18 = .ok (.iload_n 2, 1) := by decide +kernel
theorem dX12_lengthTo_19 : decode cX12_lengthTo 19 = .ok (.imul, 1) := by decide +kernel
theorem dX12_lengthTo_20 : decode cX12_lengthTo 20 = .ok (.iconst 1, 1) := by decide +kernel
theorem dX12_lengthTo_21 : decode cX12_lengthTo 21 = .ok (.iadd, 1) := by decide +kernel
theorem dX12_lengthTo_22 : decode cX12_lengthTo 22 = .ok (.iaload, 1) := by decide +kernel
theorem dX12_lengthTo_23 : decode cX12_lengthTo 23 = .ok (.istore 4, 2) := by decide +kernel
theorem dX12_lengthTo_25 : decode cX12_lengthTo 25 = .ok (.iload_n 3, 1) := by decide +kernel
theorem dX12_lengthTo_26 : decode cX12_lengthTo 26 = .ok (.iload 4, 2) := by decide +kernel
theorem dX12_lengthTo_28 : decode cX12_lengthTo 28 = .ok (.if_icmp .ge 7, 3) := by decide +kernel
theorem dX12_lengthTo_31 : decode cX12_lengthTo 31 = .ok (.iload_n 3, 1) := by decide +kernel
theorem dX12_lengthTo_32 : decode cX12_lengthTo 32 = .ok (.goto 5, 3) := by decide +kernel
theorem dX12_lengthTo_35 : decode cX12_lengthTo 35 = .ok (.iload 4, 2) := by decide +kernel
theorem dX12_lengthTo_37 : decode cX12_lengthTo 37 = .ok (.ireturn, 1) := by decide +kernel
set_option maxRecDepth 20000 in
theorem ggX12_valleyOfPeak_X12_findSide : GoodIn wsX12_valleyOfPeak wsX12_findSide := goodIn_r _ [6, 7, 8, 9, 10, 11, 12, 13, 14, 5, 15, 16, 17, 18, 19, 20, 21, 22, 27, 28, 29, 30, 31, 32, 33, 34, 35, 36, 37, 38, 39, 40, 41, 42, 43, 44, 45, 46, 47, 48, 49, 50, 51, 52, 53, 54, 55, 56, 57, 58, 59, 60, 61, 62, 63, 64, 65, 66, 67, 68, 69, 70, 71, 72, 73, 74, 75, 76, 77, 78] (by decide +kernel) (by decide +kernel)
set_option maxRecDepth 20000 in
theorem gX12_valleyOfPeak_X12_findSide : GoodIn wsX12_valleyOfPeak (wsV RX12 191 RX12 yX12_findSide wsX12_findSide) := goodIn_app (goodIn_of _ (by decide +kernel)) ggX12_valleyOfPeak_X12_findSide
set_option maxRecDepth 20000 in
theorem ggX12_valleyOfPeak_X12_lengthTo : GoodIn wsX12_valleyOfPeak wsX12_lengthTo := goodIn_r _ [26, 8, 27, 28, 29, 30, 31, 32, 33, 34, 35, 36, 37, 38, 39, 40, 41, 42, 43, 44, 45, 46, 47, 48, 49, 50, 51, 52, 53, 54, 55, 56, 57, 58, 59, 60, 61, 62, 63, 64, 65, 66, 67, 68, 69, 70, 71, 72, 73, 74, 75, 76, 77, 78] (by decide +kernel) (by decide +kernel)
set_option maxRecDepth 20000 in
theorem gX12_valleyOfPeak_X12_lengthTo : GoodIn wsX12_valleyOfPeak (wsV RX12 195 RX12 yX12_lengthTo wsX12_lengthTo) := goodIn_app (goodIn_of _ (by decide +kernel)) ggX12_valleyOfPeak_X12_lengthTo
theorem dX12_valleyOfPeak_0 : decode cX12_valleyOfPeak 0 = .ok (.aload_n 0, 1) := by decide +kernel
theorem dX12_valleyOfPeak_1 : decode cX12_valleyOfPeak 1 = .ok (.iconst 0, 1) := by decide +kernel
theorem dX12_valleyOfPeak_2 : decode cX12_valleyOfPeak 2 = .ok (.invokevirtual 191, 3) := by decide +kernel
theorem dX12_valleyOfPeak_5 : decode cX12_valleyOfPeak 5 = .ok (.aload_n 0, 1) := by decide +kernel
theorem dX12_valleyOfPeak_6 : decode cX12_valleyOfPeak 6 = .ok (.iconst 1, 1) := by decide +kernel
theorem dX12_valleyOfPeak_7 : decode cX12_valleyOfPeak 7 = .ok (.invokevirtual 191, 3) := by decide +kernel
theorem dX12_valleyOfPeak_10 : decode cX12_valleyOfPeak 10 = .ok (.bipush (-2), 2) := by decide +kernel
theorem dX12_valleyOfPeak_12 : decode cX12_valleyOfPeak 12 = .ok (.istore_n 1, 1) := by decide +kernel
theorem dX12_valleyOfPeak_13 : decode cX12_valleyOfPeak 13 = .ok (.sipush 1000, 3) := by decide +kernel
theorem dX12_valleyOfPeak_16 : decode cX12_valleyOfPeak 16 = .ok (.istore_n 2, 1) := by decide +kernel
theorem dX12_valleyOfPeak_17 : decode cX12_valleyOfPeak 17 = .ok (.iconst 0, 1) := by decide +kernel
theorem dX12_valleyOfPeak_18 : decode cX12_valleyOfPeak 18 = .ok (.istore_n 3, 1) := by decide +kernel
theorem dX12_valleyOfPeak_19 : decode cX12_valleyOfPeak 19 = .ok (.iload_n 3, 1) := by decide +kernel
theorem dX12_valleyOfPeak_20 : decode cX12_valleyOfPeak 20 = .ok (.aload_n 0, 1) := by decide +kernel
theorem dX12_valleyOfPeak_21 : decode cX12_valleyOfPeak 21 = .ok (.getfield 132, 3) := by decide +kernel
theorem dX12_valleyOfPeak_24 : decode cX12_valleyOfPeak 24 = .ok (.if_icmp .ge 35, 3) := by decide +kernel
theorem dX12_valleyOfPeak_27 : decode cX12_valleyOfPeak 27 = .ok (.aload_n 0, 1) := by decide +kernel
theorem dX12_valleyOfPeak_28 : decode cX12_valleyOfPeak 28 = .ok (.iconst 0, 1) := by decide +kernel
theorem dX12_valleyOfPeak_29 : decode cX12_valleyOfPeak 29 = .ok (.iload_n 3, 1) := by decide +kernel
theorem dX12_valleyOfPeak_30 : decode cX12_valleyOfPeak 30 = .ok (.invokevirtual 195, 3) := by decide +kernel
theorem dX12_valleyOfPeak_33 : decode cX12_valleyOfPeak 33 = .ok (.aload_n 0, 1) := by decide +kernel
theorem dX12_valleyOfPeak_34 : decode cX12_valleyOfPeak 34 = .ok (.iconst 1, 1) := by decide +kernel
theorem dX12_valleyOfPeak_35 : decode cX12_valleyOfPeak 35 = .ok (.iload_n 3, 1) := by decide +kernel
theorem dX12_valleyOfPeak_36 : decode cX12_valleyOfPeak 36 = .ok (.invokevirtual 195, 3) := by decide +kernel
theorem dX12_valleyOfPeak_39 : decode cX12_valleyOfPeak 39 = .ok (.iadd, 1) := by decide +kernel
theorem dX12_valleyOfPeak_40 : decode cX12_valleyOfPeak 40 = .ok (.istore 4, 2) := by decide +kernel
theorem dX12_valleyOfPeak_42 : decode cX12_valleyOfPeak 42 = .ok (.iload 4, 2) := by decide +kernel
theorem dX12_valleyOfPeak_44 : decode cX12_valleyOfPeak 44 = .ok (.iload_n 2, 1) := by decide +kernel
theorem dX12_valleyOfPeak_45 : decode cX12_valleyOfPeak 45 = .ok (.if_icmp .ge 8, 3) := by decide +kernel
theorem dX12_valleyOfPeak_48 : decode cX12_valleyOfPeak 48 = .ok (.iload_n 3, 1) := by decide +kernel
theorem dX12_valleyOfPeak_49 : decode cX12_valleyOfPeak 49 = .ok (.istore_n 1, 1) := by decide +kernel
theorem dX12_valleyOfPeak_50 : decode cX12_valleyOfPeak 50 = .ok (.iload 4, 2) := by decide +kernel
theorem dX12_valleyOfPeak_52 : decode cX12_valleyOfPeak 52 = .ok (.istore_n 2, 1) := by decide +kernel
theorem dX12_valleyOfPeak_53 : decode cX12_valleyOfPeak 53 = .ok (.iinc 3 1, 3) := by decide +kernel
theorem dX12_valleyOfPeak_56 : decode cX12_valleyOfPeak 56 = .ok (.goto (-37), 3) := by decide +kernel
theorem dX12_valleyOfPeak_59 : decode cX12_valleyOfPeak 59 = .ok (.iload_n 1, 1) := by decide +kernel
theorem dX12_valleyOfPeak_60 : decode cX12_valleyOfPeak 60 = .ok (.ireturn, 1) := by decide +kernel
set_option maxRecDepth 20000 in
theorem ggX12_isDecreasing_X12_findPeak : GoodIn wsX12_isDecreasing wsX12_findPeak := goodIn_r _ [5, 6, 7, 8, 9, 35, 36, 37, 38, 39, 40, 41, 42, 43, 44, 45, 46, 47, 48, 49, 50, 51, 52, 53, 54, 55, 56, 57, 58, 59, 60, 61, 62, 63, 64, 65, 66, 67, 68, 69, 70, 71, 72, 73, 74, 75, 76, 77, 78, 79, 80, 81, 82, 83, 84, 85, 86] (by decide +kernel) (by decide +kernel)
set_option maxRecDepth 20000 in
theorem gX12_isDecreasing_X12_findPeak : GoodIn wsX12_isDecreasing (wsV RX12 178 RX12 yX12_findPeak wsX12_findPeak) := goodIn_app (goodIn_of _ (by decide +kernel)) ggX12_isDecreasing_X12_findPeak
set_option maxRecDepth 20000 in
theorem ggX12_isDecreasing_X12_valleyOfPeak : GoodIn wsX12_isDecreasing wsX12_valleyOfPeak := goodIn_r _ [13, 14, 15, 16, 17, 4, 18, 19, 20, 21, 6, 7, 22, 23, 24, 25, 8, 9, 26, 27, 28, 29, 30, 31, 32, 33, 34, 35, 36, 37, 38, 39, 40, 41, 42, 43, 44, 45, 46, 47, 48, 49, 50, 51, 52, 53, 54, 55, 56, 57, 58, 59, 60, 61, 62, 63, 64, 65, 66, 67, 68, 69, 70, 71, 72, 73, 74, 75, 76, 77, 78, 79, 80, 81, 82, 83, 84, 85, 86] (by decide +kernel) (by decide +kernel)
set_option maxRecDepth 20000 in
theorem gX12_isDecreasing_X12_valleyOfPeak : GoodIn wsX12_isDecreasing (wsV RX12 199 RX12 yX12_valleyOfPeak wsX12_valleyOfPeak) := goodIn_app (goodIn_of _ (by decide +kernel)) ggX12_isDecreasing_X12_valleyOfPeak
theorem dX12_isDecreasing_0 : decode cX12_isDecreasing 0 = .ok (.aload_n 0, 1) := by decide +kernel
theorem dX12_isDecreasing_1 : decode cX12_isDecreasing 1 = .ok (.iload_n 1, 1) := by decide +kernel
theorem dX12_isDecreasing_2 : decode cX12_isDecreasing 2 = .ok (.invokevirtual 178, 3) := by decide +kernel
theorem dX12_isDecreasing_5 : decode cX12_isDecreasing 5 = .ok (.ifCond .ne 7, 3) := by decide +kernel
theorem dX12_isDecreasing_8 : decode cX12_isDecreasing 8 = .ok (.iconst (-1), 1) := by decide +kernel
theorem dX12_isDecreasing_9 : decode cX12_isDecreasing 9 = .ok (.goto 17, 3) := by decide +kernel
theorem dX12_isDecreasing_12 : decode cX12_isDecreasing 12 = .ok (.aload_n 0, 1) := by decide +kernel
theorem dX12_isDecreasing_13 : decode cX12_isDecreasing 13 = .ok (.invokevirtual 199, 3) := by decide +kernel
theorem dX12_isDecreasing_16 : decode cX12_isDecreasing 16 = .ok (.bipush (-2), 2) := by decide +kernel
theorem dX12_isDecreasing_18 : decode cX12_isDecreasing 18 = .ok (.if_icmp .ne 7, 3) := by decide +kernel
theorem dX12_isDecreasing_21 : decode cX12_isDecreasing 21 = .ok (.iconst 0, 1) := by decide +kernel
theorem dX12_isDecreasing_22 : decode cX12_isDecreasing 22 = .ok (.goto 4, 3) := by decide +kernel
theorem dX12_isDecreasing_25 : decode cX12_isDecreasing 25 = .ok (.iconst 1, 1) := by decide +kernel
theorem dX12_isDecreasing_26 : decode cX12_isDecreasing 26 = .ok (.ireturn, 1) := by decide +kernel
set_option maxRecDepth 20000 in
theorem ggX12_valley_X12_findPeak : GoodIn wsX12_valley wsX12_findPeak := goodIn_r _ [5, 6, 7, 8, 9, 35, 36, 37, 38, 39, 40, 41, 42, 43, 44, 45, 46, 47, 48, 49, 50, 51, 52, 53, 54, 55, 56, 57, 58, 59, 60, 61, 62, 63, 64, 65, 66, 67, 68, 69, 70, 71, 72, 73, 74, 75, 76, 77, 78, 79, 80, 81, 82, 83, 84, 85, 86] (by decide +kernel) (by decide +kernel)
set_option maxRecDepth 20000 in
theorem gX12_valley_X12_findPeak : GoodIn wsX12_valley (wsV RX12 178 RX12 yX12_findPeak wsX12_findPeak) := goodIn_app (goodIn_of _ (by decide +kernel)) ggX12_valley_X12_findPeak
set_option maxRecDepth 20000 in
theorem ggX12_valley_X12_valleyOfPeak : GoodIn wsX12_valley wsX12_valleyOfPeak := goodIn_r _ [13, 14, 15, 16, 17, 4, 18, 19, 20, 21, 6, 7, 22, 23, 24, 25, 8, 9, 26, 27, 28, 29, 30, 31, 32, 33, 34, 35, 36, 37, 38, 39, 40, 41, 42, 43, 44, 45, 46, 47, 48, 49, 50, 51, 52, 53, 54, 55, 56, 57, 58, 59, 60, 61, 62, 63, 64, 65, 66, 67, 68, 69, 70, 71, 72, 73, 74, 75, 76, 77, 78, 79, 80, 81, 82, 83, 84, 85, 86] (by decide +kernel) (by decide +kernel)
set_option maxRecDepth 20000 in
theorem gX12_valley_X12_valleyOfPeak : GoodIn wsX12_valley (wsV RX12 199 RX12 yX12_valleyOfPeak wsX12_valleyOfPeak) := goodIn_app (goodIn_of _ (by decide +kernel)) ggX12_valley_X12_valleyOfPeak
theorem dX12_valley_0 : decode cX12_valley 0 = .ok (.aload_n 0, 1) := by decide +kernel
theorem dX12_valley_1 : decode cX12_valley 1 = .ok (.iload_n 1, 1) := by decide +kernel
theorem dX12_valley_2 : decode cX12_valley 2 = .ok (.invokevirtual 178, 3) := by decide +kernel
theorem dX12_valley_5 : decode cX12_valley 5 = .ok (.ifCond .ne 7, 3) := by decide +kernel
theorem dX12_valley_8 : decode cX12_valley 8 = .ok (.iconst (-1), 1) := by decide +kernel
theorem dX12_valley_9 : decode cX12_valley 9 = .ok (.goto 7, 3) := by decide +kernel
theorem dX12_valley_12 : decode cX12_valley 12 = .ok (.aload_n 0, 1) := by decide +kernel
theorem dX12_valley_13 : decode cX12_valley 13 = .ok (.invokevirtual 199, 3) := by decide +kernel
theorem dX12_valley_16 : decode cX12_valley 16 = .ok (.ireturn, 1) := by decide +kernel
set_option maxRecDepth 20000 in
theorem ggX12_findPath_X12_stepOf : GoodIn wsX12_findPath wsX12_stepOf := goodIn_r _ [12, 13, 14, 29, 30, 31, 32, 33, 34, 35, 36, 37, 38, 39, 40, 41, 42, 43, 44, 45, 46, 47, 48, 49, 50, 51, 52, 53, 54, 55, 56, 57, 58, 59, 60, 61, 62, 63, 64, 65, 66, 67, 68, 69, 70, 71, 72, 73, 74, 75, 76, 77, 78, 79, 80] (by decide +kernel) (by decide +kernel)
set_option maxRecDepth 20000 in
theorem gX12_findPath_X12_stepOf : GoodIn wsX12_findPath (wsV RX12 184 RX12 yX12_stepOf wsX12_stepOf) := goodIn_app (goodIn_of _ (by decide +kernel)) ggX12_findPath_X12_stepOf
set_option maxRecDepth 20000 in
theorem ggX12_findPath_X12_leads : GoodIn wsX12_findPath wsX12_leads := goodIn_r _ [18, 19, 1, 29, 30, 31, 32, 33, 34, 35, 36, 37, 38, 39, 40, 41, 42, 43, 44, 45, 46, 47, 48, 49, 50, 51, 52, 53, 54, 55, 56, 57, 58, 59, 60, 61, 62, 63, 64, 65, 66, 67, 68, 69, 70, 71, 72, 73, 74, 75, 76, 77, 78, 79, 80] (by decide +kernel) (by decide +kernel)
set_option maxRecDepth 20000 in
theorem gX12_findPath_X12_leads : GoodIn wsX12_findPath (wsV RX12 187 RX12 yX12_leads wsX12_leads) := goodIn_app (goodIn_of _ (by decide +kernel)) ggX12_findPath_X12_leads
set_option maxRecDepth 20000 in
theorem ggX12_findPath_X12_lengthTo : GoodIn wsX12_findPath wsX12_lengthTo := goodIn_r _ [23, 24, 29, 30, 31, 32, 33, 34, 35, 36, 37, 38, 39, 40, 41, 42, 43, 44, 45, 46, 47, 48, 49, 50, 51, 52, 53, 54, 55, 56, 57, 58, 59, 60, 61, 62, 63, 64, 65, 66, 67, 68, 69, 70, 71, 72, 73, 74, 75, 76, 77, 78, 79, 80] (by decide +kernel) (by decide +kernel)
set_option maxRecDepth 20000 in
theorem gX12_findPath_X12_lengthTo : GoodIn wsX12_findPath (wsV RX12 195 RX12 yX12_lengthTo wsX12_lengthTo) := goodIn_app (goodIn_of _ (by decide +kernel)) ggX12_findPath_X12_lengthTo
set_option maxRecDepth 20000 in
theorem ggX12_findPath_X12_nextPhases : GoodIn wsX12_findPath wsX12_nextPhases := goodIn_r _ [28, 4, 2, 5, 15, 16, 17, 11, 18, 19, 1, 29, 30, 31, 32, 33, 34, 35, 36, 37, 38, 39, 40, 41, 42, 43, 44, 45, 46, 47, 48, 49, 50, 51, 52, 53, 54, 55, 56, 57, 58, 59, 60, 61, 62, 63, 64, 65, 66, 67, 68, 69, 70, 71, 72, 73, 74, 75, 76, 77, 78, 79, 80] (by decide +kernel) (by decide +kernel)
set_option maxRecDepth 20000 in
theorem gX12_findPath_X12_nextPhases : GoodIn wsX12_findPath (wsV RX12 205 RX12 yX12_nextPhases wsX12_nextPhases) := goodIn_app (goodIn_of _ (by decide +kernel)) ggX12_findPath_X12_nextPhases
theorem dX12_findPath_0 : decode cX12_findPath 0 = .ok (.aload_n 0, 1) := by decide +kernel
theorem dX12_findPath_1 : decode cX12_findPath 1 = .ok (.getfield 24, 3) := by decide +kernel
theorem dX12_findPath_4 : decode cX12_findPath 4 = .ok (.aload_n 0, 1) := by decide +kernel
theorem dX12_findPath_5 : decode cX12_findPath 5 = .ok (.iload_n 1, 1) := by decide +kernel
theorem dX12_findPath_6 : decode cX12_findPath 6 = .ok (.invokevirtual 184, 3) := by decide +kernel
theorem dX12_findPath_9 : decode cX12_findPath 9 = .ok (.iaload, 1) := by decide +kernel
theorem dX12_findPath_10 : decode cX12_findPath 10 = .ok (.istore_n 3, 1) := by decide +kernel
theorem dX12_findPath_11 : decode cX12_findPath 11 = .ok (.aload_n 0, 1) := by decide +kernel
theorem dX12_findPath_12 : decode cX12_findPath 12 = .ok (.getfield 24, 3) := by decide +kernel
theorem dX12_findPath_15 : decode cX12_findPath 15 = .ok (.aload_n 0, 1) := by decide +kernel
theorem dX12_findPath_16 : decode cX12_findPath 16 = .ok (.iconst 1, 1) := by decide +kernel
theorem dX12_findPath_17 : decode cX12_findPath 17 = .ok (.iload_n 1, 1) := by decide +kernel
theorem dX12_findPath_18 : decode cX12_findPath 18 = .ok (.isub, 1) := by decide +kernel
theorem dX12_findPath_19 : decode cX12_findPath 19 = .ok (.invokevirtual 184, 3) := by decide +kernel
theorem dX12_findPath_22 : decode cX12_findPath 22 = .ok (.iaload, 1) := by decide +kernel
theorem dX12_findPath_23 : decode cX12_findPath 23 = .ok (.istore 4, 2) := by decide +kernel
theorem dX12_findPath_25 : decode cX12_findPath 25 = .ok (.iconst 0, 1) := by decide +kernel
theorem dX12_findPath_26 : decode cX12_findPath 26 = .ok (.istore 5, 2) := by decide +kernel
theorem dX12_findPath_28 : decode cX12_findPath 28 = .ok (.iload 5, 2) := by decide +kernel
theorem dX12_findPath_30 : decode cX12_findPath 30 = .ok (.bipush 32, 2) := by decide +kernel
theorem dX12_findPath_32 : decode cX12_findPath 32 = .ok (.if_icmp .ge 31, 3) := by decide +kernel
theorem dX12_findPath_35 : decode cX12_findPath 35 = .ok (.aload_n 0, 1) := by decide +kernel
theorem dX12_findPath_36 : decode cX12_findPath 36 = .ok (.getfield 44, 3) := by decide +kernel
theorem dX12_findPath_39 : decode cX12_findPath 39 = .ok (.iload 5, 2) := by decide +kernel
theorem dX12_findPath_41 : decode cX12_findPath 41 = .ok (.iload 5, 2) := by decide +kernel
theorem dX12_findPath_43 : decode cX12_findPath 43 = .ok (.iconst 2, 1) := by decide +kernel
theorem dX12_findPath_44 : decode cX12_findPath 44 = .ok (.idiv, 1) := by decide +kernel
theorem dX12_findPath_45 : decode cX12_findPath 45 = .ok (.iload_n 2, 1) := by decide +kernel
theorem dX12_findPath_46 : decode cX12_findPath 46 = .ok (.if_icmp .ne 7, 3) := by decide +kernel
theorem dX12_findPath_49 : decode cX12_findPath 49 = .ok (.iconst 0, 1) := by decide +kernel
theorem dX12_findPath_50 : decode cX12_findPath 50 = .ok (.goto 6, 3) := by decide +kernel
theorem dX12_findPath_53 : decode cX12_findPath 53 = .ok (.sipush 1000, 3) := by decide +kernel
theorem dX12_findPath_56 : decode cX12_findPath 56 = .ok (.iastore, 1) := by decide +kernel
theorem dX12_findPath_57 : decode cX12_findPath 57 = .ok (.iinc 5 1, 3) := by decide +kernel
theorem dX12_findPath_60 : decode cX12_findPath 60 = .ok (.goto (-32), 3) := by decide +kernel
theorem dX12_findPath_63 : decode cX12_findPath 63 = .ok (.iconst 1, 1) := by decide +kernel
theorem dX12_findPath_64 : decode cX12_findPath 64 = .ok (.istore 5, 2) := by decide +kernel
theorem dX12_findPath_66 : decode cX12_findPath 66 = .ok (.iload 5, 2) := by decide +kernel
theorem dX12_findPath_68 : decode cX12_findPath 68 = .ok (.ifCond .eq 132, 3) := by decide +kernel
theorem dX12_findPath_71 : decode cX12_findPath 71 = .ok (.iconst 0, 1) := by decide +kernel
theorem dX12_findPath_72 : decode cX12_findPath 72 = .ok (.istore 5, 2) := by decide +kernel
theorem dX12_findPath_74 : decode cX12_findPath 74 = .ok (.iconst 0, 1) := by decide +kernel
theorem dX12_findPath_75 : decode cX12_findPath 75 = .ok (.istore 6, 2) := by decide +kernel
theorem dX12_findPath_77 : decode cX12_findPath 77 = .ok (.iload 6, 2) := by decide +kernel
theorem dX12_findPath_79 : decode cX12_findPath 79 = .ok (.aload_n 0, 1) := by decide +kernel
theorem dX12_findPath_80 : decode cX12_findPath 80 = .ok (.getfield 135, 3) := by decide +kernel
theorem dX12_findPath_83 : decode cX12_findPath 83 = .ok (.if_icmp .ge 114, 3) := by decide +kernel
theorem dX12_findPath_86 : decode cX12_findPath 86 = .ok (.iconst 0, 1) := by decide +kernel
theorem dX12_findPath_87 : decode cX12_findPath 87 = .ok (.istore 7, 2) := by decide +kernel
theorem dX12_findPath_89 : decode cX12_findPath 89 = .ok (.iload 7, 2) := by decide +kernel
theorem dX12_findPath_91 : decode cX12_findPath 91 = .ok (.iconst 4, 1) := by decide +kernel
theorem dX12_findPath_92 : decode cX12_findPath 92 = .ok (.if_icmp .ge 99, 3) := by decide +kernel
theorem dX12_findPath_95 : decode cX12_findPath 95 = .ok (.iconst 2, 1) := by decide +kernel
theorem dX12_findPath_96 : decode cX12_findPath 96 = .ok (.aload_n 0, 1) := by decide +kernel
theorem dX12_findPath_97 : decode cX12_findPath 97 = .ok (.getfield 17, 3) := by decide +kernel
theorem dX12_findPath_100 : decode cX12_findPath 100 = .ok (.iload 6, 2) := by decide +kernel
theorem dX12_findPath_102 : decode cX12_findPath 102 = .ok (.iaload, 1) := by decide +kernel
theorem dX12_findPath_103 : decode cX12_findPath 103 = .ok (.imul, 1) := by decide +kernel
theorem dX12_findPath_104 : decode cX12_findPath 104 = .ok (.iload 7, 2) := by decide +kernel
theorem dX12_findPath_106 : decode cX12_findPath 106 = .ok (.iconst 2, 1) := by decide +kernel
theorem dX12_findPath_107 : decode cX12_findPath 107 = .ok (.idiv, 1) := by decide +kernel
theorem dX12_findPath_108 : decode cX12_findPath 108 = .ok (.iadd, 1) := by decide +kernel
theorem dX12_findPath_109 : decode cX12_findPath 109 = .ok (.istore 8, 2) := by decide +kernel
theorem dX12_findPath_111 : decode cX12_findPath 111 = .ok (.iconst 2, 1) := by decide +kernel
theorem dX12_findPath_112 : decode cX12_findPath 112 = .ok (.aload_n 0, 1) := by decide +kernel
theorem dX12_findPath_113 : decode cX12_findPath 113 = .ok (.getfield 21, 3) := by decide +kernel
theorem dX12_findPath_116 : decode cX12_findPath 116 = .ok (.iload 6, 2) := by decide +kernel
theorem dX12_findPath_118 : decode cX12_findPath 118 = .ok (.iaload, 1) := by decide +kernel
theorem dX12_findPath_119 : decode cX12_findPath 119 = .ok (.imul, 1) := by decide +kernel
theorem dX12_findPath_120 : decode cX12_findPath 120 = .ok (.iload 7, 2) := by decide +kernel
theorem dX12_findPath_122 : decode cX12_findPath 122 = .ok (.iconst 2, 1) := by decide +kernel
theorem dX12_findPath_123 : decode cX12_findPath 123 = .ok (.irem, 1) := by decide +kernel
theorem dX12_findPath_124 : decode cX12_findPath 124 = .ok (.iadd, 1) := by decide +kernel
theorem dX12_findPath_125 : decode cX12_findPath 125 = .ok (.istore 9, 2) := by decide +kernel
theorem dX12_findPath_127 : decode cX12_findPath 127 = .ok (.aload_n 0, 1) := by decide +kernel
theorem dX12_findPath_128 : decode cX12_findPath 128 = .ok (.getfield 44, 3) := by decide +kernel
theorem dX12_findPath_131 : decode cX12_findPath 131 = .ok (.iload 9, 2) := by decide +kernel
theorem dX12_findPath_133 : decode cX12_findPath 133 = .ok (.iaload, 1) := by decide +kernel
theorem dX12_findPath_134 : decode cX12_findPath 134 = .ok (.iconst 1, 1) := by decide +kernel
theorem dX12_findPath_135 : decode cX12_findPath 135 = .ok (.iadd, 1) := by decide +kernel
theorem dX12_findPath_136 : decode cX12_findPath 136 = .ok (.aload_n 0, 1) := by decide +kernel
theorem dX12_findPath_137 : decode cX12_findPath 137 = .ok (.getfield 44, 3) := by decide +kernel
theorem dX12_findPath_140 : decode cX12_findPath 140 = .ok (.iload 8, 2) := by decide +kernel
theorem dX12_findPath_142 : decode cX12_findPath 142 = .ok (.iaload, 1) := by decide +kernel
theorem dX12_findPath_143 : decode cX12_findPath 143 = .ok (.if_icmp .ge 42, 3) := by decide +kernel
theorem dX12_findPath_146 : decode cX12_findPath 146 = .ok (.aload_n 0, 1) := by decide +kernel
theorem dX12_findPath_147 : decode cX12_findPath 147 = .ok (.iload 6, 2) := by decide +kernel
theorem dX12_findPath_149 : decode cX12_findPath 149 = .ok (.iload 7, 2) := by decide +kernel
theorem dX12_findPath_151 : decode cX12_findPath 151 = .ok (.iconst 2, 1) := by decide +kernel
theorem dX12_findPath_152 : decode cX12_findPath 152 = .ok (.idiv, 1) := by decide +kernel
theorem dX12_findPath_153 : decode cX12_findPath 153 = .ok (.iload 7, 2) := by decide +kernel
theorem dX12_findPath_155 : decode cX12_findPath 155 = .ok (.iconst 2, 1) := by decide +kernel
theorem dX12_findPath_156 : decode cX12_findPath 156 = .ok (.irem, 1) := by decide +kernel
theorem dX12_findPath_157 : decode cX12_findPath 157 = .ok (.iload_n 3, 1) := by decide +kernel
theorem dX12_findPath_158 : decode cX12_findPath 158 = .ok (.iload 4, 2) := by decide +kernel
theorem dX12_findPath_160 : decode cX12_findPath 160 = .ok (.invokevirtual 187, 3) := by decide +kernel
theorem dX12_findPath_163 : decode cX12_findPath 163 = .ok (.ifCond .eq 22, 3) := by decide +kernel
theorem dX12_findPath_166 : decode cX12_findPath 166 = .ok (.aload_n 0, 1) := by decide +kernel
theorem dX12_findPath_167 : decode cX12_findPath 167 = .ok (.getfield 44, 3) := by decide +kernel
theorem dX12_findPath_170 : decode cX12_findPath 170 = .ok (.iload 8, 2) := by decide +kernel
theorem dX12_findPath_172 : decode cX12_findPath 172 = .ok (.aload_n 0, 1) := by decide +kernel
theorem dX12_findPath_173 : decode cX12_findPath 173 = .ok (.getfield 44, 3) := by decide +kernel
theorem dX12_findPath_176 : decode cX12_findPath 176 = .ok (.iload 9, 2) := by decide +kernel
theorem dX12_findPath_178 : decode cX12_findPath 178 = .ok (.iaload, 1) := by decide +kernel
theorem dX12_findPath_179 : decode cX12_findPath 179 = .ok (.iconst 1, 1) := by decide +kernel
theorem dX12_findPath_180 : decode cX12_findPath 180 = .ok (.iadd, 1) := by decide +kernel
theorem dX12_findPath_181 : decode cX12_findPath 181 = .ok (.iastore, 1) := by decide +kernel
theorem dX12_findPath_182 : decode cX12_findPath 182 = .ok (.iconst 1, 1) := by decide +kernel
theorem dX12_findPath_183 : decode cX12_findPath 183 = .ok (.istore 5, 2) := by decide +kernel
theorem dX12_findPath_185 : decode cX12_findPath 185 = .ok (.iinc 7 1, 3) := by decide +kernel
theorem dX12_findPath_188 : decode cX12_findPath 188 = .ok (.goto (-99), 3) := by decide +kernel
theorem dX12_findPath_191 : decode cX12_findPath 191 = .ok (.iinc 6 1, 3) := by decide +kernel
theorem dX12_findPath_194 : decode cX12_findPath 194 = .ok (.goto (-117), 3) := by decide +kernel
theorem dX12_findPath_197 : decode cX12_findPath 197 = .ok (.goto (-131), 3) := by decide +kernel
theorem dX12_findPath_200 : decode cX12_findPath 200 = .ok (.aload_n 0, 1) := by decide +kernel
theorem dX12_findPath_201 : decode cX12_findPath 201 = .ok (.aload_n 0, 1) := by decide +kernel
theorem dX12_findPath_202 : decode cX12_findPath 202 = .ok (.iload_n 1, 1) := by decide +kernel
theorem dX12_findPath_203 : decode cX12_findPath 203 = .ok (.iload_n 2, 1) := by decide +kernel
theorem dX12_findPath_204 : decode cX12_findPath 204 = .ok (.invokevirtual 195, 3) := by decide +kernel
theorem dX12_findPath_207 : decode cX12_findPath 207 = .ok (.putfield 202, 3) := by decide +kernel
theorem dX12_findPath_210 : decode cX12_findPath 210 = .ok (.aload_n 0, 1) := by decide +kernel
theorem dX12_findPath_211 : decode cX12_findPath 211 = .ok (.getfield 21, 3) := by decide +kernel
theorem dX12_findPath_214 : decode cX12_findPath 214 = .ok (.aload_n 0, 1) := by decide +kernel
theorem dX12_findPath_215 : decode cX12_findPath 215 = .ok (.iload_n 1, 1) := by decide +kernel
theorem dX12_findPath_216 : decode cX12_findPath 216 = .ok (.invokevirtual 184, 3) := by decide +kernel
theorem dX12_findPath_219 : decode cX12_findPath 219 = .ok (.iaload, 1) := by decide +kernel
theorem dX12_findPath_220 : decode cX12_findPath 220 = .ok (.istore 6, 2) := by decide +kernel
theorem dX12_findPath_222 : decode cX12_findPath 222 = .ok (.iconst 1, 1) := by decide +kernel
theorem dX12_findPath_223 : decode cX12_findPath 223 = .ok (.istore 7, 2) := by decide +kernel
theorem dX12_findPath_225 : decode cX12_findPath 225 = .ok (.iconst 0, 1) := by decide +kernel
theorem dX12_findPath_226 : decode cX12_findPath 226 = .ok (.istore 8, 2) := by decide +kernel
theorem dX12_findPath_228 : decode cX12_findPath 228 = .ok (.iload 8, 2) := by decide +kernel
theorem dX12_findPath_230 : decode cX12_findPath 230 = .ok (.aload_n 0, 1) := by decide +kernel
theorem dX12_findPath_231 : decode cX12_findPath 231 = .ok (.getfield 202, 3) := by decide +kernel
theorem dX12_findPath_234 : decode cX12_findPath 234 = .ok (.if_icmp .ge 93, 3) := by decide +kernel
theorem dX12_findPath_237 : decode cX12_findPath 237 = .ok (.iconst 0, 1) := by decide +kernel
theorem dX12_findPath_238 : decode cX12_findPath 238 = .ok (.istore 9, 2) := by decide +kernel
theorem dX12_findPath_240 : decode cX12_findPath 240 = .ok (.aload_n 0, 1) := by decide +kernel
theorem dX12_findPath_241 : decode cX12_findPath 241 = .ok (.iload 9, 2) := by decide +kernel
theorem dX12_findPath_243 : decode cX12_findPath 243 = .ok (.iload 6, 2) := by decide +kernel
theorem dX12_findPath_245 : decode cX12_findPath 245 = .ok (.iload 7, 2) := by decide +kernel
theorem dX12_findPath_247 : decode cX12_findPath 247 = .ok (.aload_n 0, 1) := by decide +kernel
theorem dX12_findPath_248 : decode cX12_findPath 248 = .ok (.getfield 202, 3) := by decide +kernel
theorem dX12_findPath_251 : decode cX12_findPath 251 = .ok (.iload 8, 2) := by decide +kernel
theorem dX12_findPath_253 : decode cX12_findPath 253 = .ok (.isub, 1) := by decide +kernel
theorem dX12_findPath_254 : decode cX12_findPath 254 = .ok (.iconst 1, 1) := by decide +kernel
theorem dX12_findPath_255 : decode cX12_findPath 255 = .ok (.isub, 1) := by decide +kernel
theorem dX12_findPath_256 : decode cX12_findPath 256 = .ok (.iload_n 3, 1) := by decide +kernel
theorem dX12_findPath_257 : decode cX12_findPath 257 = .ok (.iload 4, 2) := by decide +kernel
theorem dX12_findPath_259 : decode cX12_findPath 259 = .ok (.invokevirtual 205, 3) := by decide +kernel
theorem dX12_findPath_262 : decode cX12_findPath 262 = .ok (.istore 10, 2) := by decide +kernel
theorem dX12_findPath_264 : decode cX12_findPath 264 = .ok (.iload 10, 2) := by decide +kernel
theorem dX12_findPath_266 : decode cX12_findPath 266 = .ok (.ifCond .ne 33, 3) := by decide +kernel
theorem dX12_findPath_269 : decode cX12_findPath 269 = .ok (.iinc 9 1, 3) := by decide +kernel
theorem dX12_findPath_272 : decode cX12_findPath 272 = .ok (.aload_n 0, 1) := by decide +kernel
theorem dX12_findPath_273 : decode cX12_findPath 273 = .ok (.iload 9, 2) := by decide +kernel
theorem dX12_findPath_275 : decode cX12_findPath 275 = .ok (.iload 6, 2) := by decide +kernel
theorem dX12_findPath_277 : decode cX12_findPath 277 = .ok (.iload 7, 2) := by decide +kernel
theorem dX12_findPath_279 : decode cX12_findPath 279 = .ok (.aload_n 0, 1) := by decide +kernel
theorem dX12_findPath_280 : decode cX12_findPath 280 = .ok (.getfield 202, 3) := by decide +kernel
theorem dX12_findPath_283 : decode cX12_findPath 283 = .ok (.iload 8, 2) := by decide +kernel
theorem dX12_findPath_285 : decode cX12_findPath 285 = .ok (.isub, 1) := by decide +kernel
theorem dX12_findPath_286 : decode cX12_findPath 286 = .ok (.iconst 1, 1) := by decide +kernel
theorem dX12_findPath_287 : decode cX12_findPath 287 = .ok (.isub, 1) := by decide +kernel
theorem dX12_findPath_288 : decode cX12_findPath 288 = .ok (.iload_n 3, 1) := by decide +kernel
theorem dX12_findPath_289 : decode cX12_findPath 289 = .ok (.iload 4, 2) := by decide +kernel
theorem dX12_findPath_291 : decode cX12_findPath 291 = .ok (.invokevirtual 205, 3) := by decide +kernel
theorem dX12_findPath_294 : decode cX12_findPath 294 = .ok (.istore 10, 2) := by decide +kernel
theorem dX12_findPath_296 : decode cX12_findPath 296 = .ok (.goto (-32), 3) := by decide +kernel
theorem dX12_findPath_299 : decode cX12_findPath 299 = .ok (.aload_n 0, 1) := by decide +kernel
theorem dX12_findPath_300 : decode cX12_findPath 300 = .ok (.getfield 47, 3) := by decide +kernel
theorem dX12_findPath_303 : decode cX12_findPath 303 = .ok (.iload 8, 2) := by decide +kernel
theorem dX12_findPath_305 : decode cX12_findPath 305 = .ok (.iload 9, 2) := by decide +kernel
theorem dX12_findPath_307 : decode cX12_findPath 307 = .ok (.iastore, 1) := by decide +kernel
theorem dX12_findPath_308 : decode cX12_findPath 308 = .ok (.aload_n 0, 1) := by decide +kernel
theorem dX12_findPath_309 : decode cX12_findPath 309 = .ok (.getfield 21, 3) := by decide +kernel
theorem dX12_findPath_312 : decode cX12_findPath 312 = .ok (.iload 9, 2) := by decide +kernel
theorem dX12_findPath_314 : decode cX12_findPath 314 = .ok (.iaload, 1) := by decide +kernel
theorem dX12_findPath_315 : decode cX12_findPath 315 = .ok (.istore 6, 2) := by decide +kernel
theorem dX12_findPath_317 : decode cX12_findPath 317 = .ok (.iload 10, 2) := by decide +kernel
theorem dX12_findPath_319 : decode cX12_findPath 319 = .ok (.istore 7, 2) := by decide +kernel
theorem dX12_findPath_321 : decode cX12_findPath 321 = .ok (.iinc 8 1, 3) := by decide +kernel
theorem dX12_findPath_324 : decode cX12_findPath 324 = .ok (.goto (-96), 3) := by decide +kernel
theorem dX12_findPath_327 : decode cX12_findPath 327 = .ok (.return_, 1) := by decide +kernel
set_option maxRecDepth 20000 in
theorem ggX12_nextPhases_X12_leads : GoodIn wsX12_nextPhases wsX12_leads := goodIn_r _ [8, 9, 10, 11, 12, 13, 14, 15, 16, 17, 18, 19, 20, 21, 22, 23, 24, 25, 26, 27, 28, 29, 30, 31, 32, 33, 34, 35, 36, 37, 38, 39, 40, 41, 42, 43, 44, 45, 46, 47, 48, 49, 50, 51, 52, 53, 54, 55, 56, 57, 58, 59, 60, 61, 62] (by decide +kernel) (by decide +kernel)
set_option maxRecDepth 20000 in
theorem gX12_nextPhases_X12_leads : GoodIn wsX12_nextPhases (wsV RX12 187 RX12 yX12_leads wsX12_leads) := goodIn_app (goodIn_of _ (by decide +kernel)) ggX12_nextPhases_X12_leads
theorem dX12_nextPhases_0 : decode cX12_nextPhases 0 = .ok (.iconst 0, 1) := by decide +kernel
theorem dX12_nextPhases_1 : decode cX12_nextPhases 1 = .ok (.istore 7, 2) := by decide +kernel
theorem dX12_nextPhases_3 : decode cX12_nextPhases 3 = .ok (.iconst 0, 1) := by decide +kernel
theorem dX12_nextPhases_4 : decode cX12_nextPhases 4 = .ok (.istore 8, 2) := by decide +kernel
theorem dX12_nextPhases_6 : decode cX12_nextPhases 6 = .ok (.iload 8, 2) := by decide +kernel
theorem dX12_nextPhases_8 : decode cX12_nextPhases 8 = .ok (.iconst 4, 1) := by decide +kernel
theorem dX12_nextPhases_9 : decode cX12_nextPhases 9 = .ok (.if_icmp .ge 101, 3) := by decide +kernel
theorem dX12_nextPhases_12 : decode cX12_nextPhases 12 = .ok (.aload_n 0, 1) := by decide +kernel
theorem dX12_nextPhases_13 : decode cX12_nextPhases 13 = .ok (.getfield 17, 3) := by decide +kernel
theorem dX12_nextPhases_16 : decode cX12_nextPhases 16 = .ok (.iload_n 1, 1) := by decide +kernel
theorem dX12_nextPhases_17 : decode cX12_nextPhases 17 = .ok (.iaload, 1) := by decide +kernel
theorem dX12_nextPhases_18 : decode cX12_nextPhases 18 = .ok (.iload_n 2, 1) := by decide +kernel
theorem dX12_nextPhases_19 : decode cX12_nextPhases 19 = .ok (.if_icmp .ne 91, 3) := by decide +kernel
theorem dX12_nextPhases_22 : decode cX12_nextPhases 22 = .ok (.iload_n 3, 1) := by decide +kernel
theorem dX12_nextPhases_23 : decode cX12_nextPhases 23 = .ok (.iload 8, 2) := by decide +kernel
theorem dX12_nextPhases_25 : decode cX12_nextPhases 25 = .ok (.iconst 2, 1) := by decide +kernel
theorem dX12_nextPhases_26 : decode cX12_nextPhases 26 = .ok (.idiv, 1) := by decide +kernel
theorem dX12_nextPhases_27 : decode cX12_nextPhases 27 = .ok (.ishr, 1) := by decide +kernel
theorem dX12_nextPhases_28 : decode cX12_nextPhases 28 = .ok (.iconst 1, 1) := by decide +kernel
theorem dX12_nextPhases_29 : decode cX12_nextPhases 29 = .ok (.iand, 1) := by decide +kernel
theorem dX12_nextPhases_30 : decode cX12_nextPhases 30 = .ok (.iconst 1, 1) := by decide +kernel
theorem dX12_nextPhases_31 : decode cX12_nextPhases 31 = .ok (.if_icmp .ne 30, 3) := by decide +kernel
theorem dX12_nextPhases_34 : decode cX12_nextPhases 34 = .ok (.aload_n 0, 1) := by decide +kernel
theorem dX12_nextPhases_35 : decode cX12_nextPhases 35 = .ok (.getfield 44, 3) := by decide +kernel
theorem dX12_nextPhases_38 : decode cX12_nextPhases 38 = .ok (.iconst 2, 1) := by decide +kernel
theorem dX12_nextPhases_39 : decode cX12_nextPhases 39 = .ok (.aload_n 0, 1) := by decide +kernel
theorem dX12_nextPhases_40 : decode cX12_nextPhases 40 = .ok (.getfield 21, 3) := by decide +kernel
theorem dX12_nextPhases_43 : decode cX12_nextPhases 43 = .ok (.iload_n 1, 1) := by decide +kernel
theorem dX12_nextPhases_44 : decode cX12_nextPhases 44 = .ok (.iaload, 1) := by decide +kernel
theorem dX12_nextPhases_45 : decode cX12_nextPhases 45 = .ok (.imul, 1) := by decide +kernel
theorem dX12_nextPhases_46 : decode cX12_nextPhases 46 = .ok (.iload 8, 2) := by decide +kernel
theorem dX12_nextPhases_48 : decode cX12_nextPhases 48 = .ok (.iconst 2, 1) := by decide +kernel
theorem dX12_nextPhases_49 : decode cX12_nextPhases 49 = .ok (.irem, 1) := by decide +kernel
theorem dX12_nextPhases_50 : decode cX12_nextPhases 50 = .ok (.iadd, 1) := by decide +kernel
theorem dX12_nextPhases_51 : decode cX12_nextPhases 51 = .ok (.iaload, 1) := by decide +kernel
theorem dX12_nextPhases_52 : decode cX12_nextPhases 52 = .ok (.iload 4, 2) := by decide +kernel
theorem dX12_nextPhases_54 : decode cX12_nextPhases 54 = .ok (.if_icmp .ne 7, 3) := by decide +kernel
theorem dX12_nextPhases_57 : decode cX12_nextPhases 57 = .ok (.iconst 1, 1) := by decide +kernel
theorem dX12_nextPhases_58 : decode cX12_nextPhases 58 = .ok (.goto 4, 3) := by decide +kernel
theorem dX12_nextPhases_61 : decode cX12_nextPhases 61 = .ok (.iconst 0, 1) := by decide +kernel
theorem dX12_nextPhases_62 : decode cX12_nextPhases 62 = .ok (.istore 9, 2) := by decide +kernel
theorem dX12_nextPhases_64 : decode cX12_nextPhases 64 = .ok (.iload 7, 2) := by decide +kernel
theorem dX12_nextPhases_66 : decode cX12_nextPhases 66 = .ok (.iload 9, 2) := by decide +kernel
theorem dX12_nextPhases_68 : decode cX12_nextPhases 68 = .ok (.ifCond .eq 32, 3) := by decide +kernel
theorem dX12_nextPhases_71 : decode cX12_nextPhases 71 = .ok (.aload_n 0, 1) := by decide +kernel
theorem dX12_nextPhases_72 : decode cX12_nextPhases 72 = .ok (.iload_n 1, 1) := by decide +kernel
theorem dX12_nextPhases_73 : decode cX12_nextPhases 73 = .ok (.iload 8, 2) := by decide +kernel
theorem dX12_nextPhases_75 : decode cX12_nextPhases 75 = .ok (.iconst 2, 1) := by decide +kernel
theorem dX12_nextPhases_76 : decode cX12_nextPhases 76 = .ok (.idiv, 1) := by decide +kernel
theorem dX12_nextPhases_77 : decode cX12_nextPhases 77 = .ok (.iload 8, 2) := by decide +kernel
theorem dX12_nextPhases_79 : decode cX12_nextPhases 79 = .ok (.iconst 2, 1) := by decide +kernel
theorem dX12_nextPhases_80 : decode cX12_nextPhases 80 = .ok (.irem, 1) := by decide +kernel
theorem dX12_nextPhases_81 : decode cX12_nextPhases 81 = .ok (.iload 5, 2) := by decide +kernel
theorem dX12_nextPhases_83 : decode cX12_nextPhases 83 = .ok (.iload 6, 2) := by decide +kernel
theorem dX12_nextPhases_85 : decode cX12_nextPhases 85 = .ok (.invokevirtual 187, 3) := by decide +kernel
theorem dX12_nextPhases_88 : decode cX12_nextPhases 88 = .ok (.ifCond .eq 12, 3) := by decide +kernel
theorem dX12_nextPhases_91 : decode cX12_nextPhases 91 = .ok (.iconst 1, 1) := by decide +kernel
theorem dX12_nextPhases_92 : decode cX12_nextPhases 92 = .ok (.iload 8, 2) := by decide +kernel
theorem dX12_nextPhases_94 : decode cX12_nextPhases 94 = .ok (.iconst 2, 1) := by decide +kernel
theorem dX12_nextPhases_95 : decode cX12_nextPhases 95 = .ok (.irem, 1) := by decide +kernel
theorem dX12_nextPhases_96 : decode cX12_nextPhases 96 = .ok (.ishl, 1) := by decide +kernel
theorem dX12_nextPhases_97 : decode cX12_nextPhases 97 = .ok (.goto 4, 3) := by decide +kernel
theorem dX12_nextPhases_100 : decode cX12_nextPhases 100 = .ok (.iconst 0, 1) := by decide +kernel
theorem dX12_nextPhases_101 : decode cX12_nextPhases 101 = .ok (.ior, 1) := by decide +kernel
theorem dX12_nextPhases_102 : decode cX12_nextPhases 102 = .ok (.istore 7, 2) := by decide +kernel
theorem dX12_nextPhases_104 : decode cX12_nextPhases 104 = .ok (.iinc 8 1, 3) := by decide +kernel
theorem dX12_nextPhases_107 : decode cX12_nextPhases 107 = .ok (.goto (-101), 3) := by decide +kernel
theorem dX12_nextPhases_110 : decode cX12_nextPhases 110 = .ok (.iload 7, 2) := by decide +kernel
theorem dX12_nextPhases_112 : decode cX12_nextPhases 112 = .ok (.ireturn, 1) := by decide +kernel
set_option maxRecDepth 20000 in
theorem ggX12_joinLength_X12_findPeak : GoodIn wsX12_joinLength wsX12_findPeak := goodIn_r _ [5, 6, 7, 8, 9, 41, 42, 43, 44, 45, 46, 47, 48, 49, 50, 51, 52, 53, 54, 55, 56, 57, 58, 59, 60, 61, 62, 63, 64, 65, 66, 67, 68, 69, 70, 71, 72, 73, 74, 75, 76, 77, 78, 79, 80, 81, 82, 83, 84, 85, 86, 87, 88, 89, 90, 91, 92] (by decide +kernel) (by decide +kernel)
set_option maxRecDepth 20000 in
theorem gX12_joinLength_X12_findPeak : GoodIn wsX12_joinLength (wsV RX12 178 RX12 yX12_findPeak wsX12_findPeak) := goodIn_app (goodIn_of _ (by decide +kernel)) ggX12_joinLength_X12_findPeak
set_option maxRecDepth 20000 in
theorem ggX12_joinLength_X12_isSide : GoodIn wsX12_joinLength wsX12_isSide := goodIn_r _ [12, 13, 14, 4, 15] (by decide +kernel) (by decide +kernel)
set_option maxRecDepth 20000 in
theorem gX12_joinLength_X12_isSide : GoodIn wsX12_joinLength (va_wsS RX12 181 yX12_isSide wsX12_isSide) := goodIn_app (goodIn_of _ (by decide +kernel)) ggX12_joinLength_X12_isSide
set_option maxRecDepth 20000 in
theorem ggX12_joinLength_X12_valleyOfPeak : GoodIn wsX12_joinLength wsX12_valleyOfPeak := goodIn_r _ [19, 20, 21, 22, 23, 4, 24, 25, 26, 27, 6, 7, 28, 29, 30, 31, 8, 9, 32, 33, 34, 35, 36, 37, 38, 39, 40, 41, 42, 43, 44, 45, 46, 47, 48, 49, 50, 51, 52, 53, 54, 55, 56, 57, 58, 59, 60, 61, 62, 63, 64, 65, 66, 67, 68, 69, 70, 71, 72, 73, 74, 75, 76, 77, 78, 79, 80, 81, 82, 83, 84, 85, 86, 87, 88, 89, 90, 91, 92] (by decide +kernel) (by decide +kernel)
set_option maxRecDepth 20000 in
theorem gX12_joinLength_X12_valleyOfPeak : GoodIn wsX12_joinLength (wsV RX12 199 RX12 yX12_valleyOfPeak wsX12_valleyOfPeak) := goodIn_app (goodIn_of _ (by decide +kernel)) ggX12_joinLength_X12_valleyOfPeak
set_option maxRecDepth 20000 in
theorem ggX12_joinLength_X12_lengthTo : GoodIn wsX12_joinLength wsX12_lengthTo := goodIn_r _ [40, 26, 41, 42, 43, 44, 45, 46, 47, 48, 49, 50, 51, 52, 53, 54, 55, 56, 57, 58, 59, 60, 61, 62, 63, 64, 65, 66, 67, 68, 69, 70, 71, 72, 73, 74, 75, 76, 77, 78, 79, 80, 81, 82, 83, 84, 85, 86, 87, 88, 89, 90, 91, 92] (by decide +kernel) (by decide +kernel)
set_option maxRecDepth 20000 in
theorem gX12_joinLength_X12_lengthTo : GoodIn wsX12_joinLength (wsV RX12 195 RX12 yX12_lengthTo wsX12_lengthTo) := goodIn_app (goodIn_of _ (by decide +kernel)) ggX12_joinLength_X12_lengthTo
theorem dX12_joinLength_0 : decode cX12_joinLength 0 = .ok (.aload_n 0, 1) := by decide +kernel
theorem dX12_joinLength_1 : decode cX12_joinLength 1 = .ok (.iload_n 1, 1) := by decide +kernel
theorem dX12_joinLength_2 : decode cX12_joinLength 2 = .ok (.invokevirtual 178, 3) := by decide +kernel
theorem dX12_joinLength_5 : decode cX12_joinLength 5 = .ok (.ifCond .eq 10, 3) := by decide +kernel
theorem dX12_joinLength_8 : decode cX12_joinLength 8 = .ok (.iload_n 2, 1) := by decide +kernel
theorem dX12_joinLength_9 : decode cX12_joinLength 9 = .ok (.invokestatic 181, 3) := by decide +kernel
theorem dX12_joinLength_12 : decode cX12_joinLength 12 = .ok (.ifCond .ne 5, 3) := by decide +kernel
theorem dX12_joinLength_15 : decode cX12_joinLength 15 = .ok (.iconst (-1), 1) := by decide +kernel
theorem dX12_joinLength_16 : decode cX12_joinLength 16 = .ok (.ireturn, 1) := by decide +kernel
theorem dX12_joinLength_17 : decode cX12_joinLength 17 = .ok (.aload_n 0, 1) := by decide +kernel
theorem dX12_joinLength_18 : decode cX12_joinLength 18 = .ok (.invokevirtual 199, 3) := by decide +kernel
theorem dX12_joinLength_21 : decode cX12_joinLength 21 = .ok (.istore_n 3, 1) := by decide +kernel
theorem dX12_joinLength_22 : decode cX12_joinLength 22 = .ok (.iload_n 3, 1) := by decide +kernel
theorem dX12_joinLength_23 : decode cX12_joinLength 23 = .ok (.bipush (-2), 2) := by decide +kernel
theorem dX12_joinLength_25 : decode cX12_joinLength 25 = .ok (.if_icmp .ne 8, 3) := by decide +kernel
theorem dX12_joinLength_28 : decode cX12_joinLength 28 = .ok (.bipush (-2), 2) := by decide +kernel
theorem dX12_joinLength_30 : decode cX12_joinLength 30 = .ok (.goto 9, 3) := by decide +kernel
theorem dX12_joinLength_33 : decode cX12_joinLength 33 = .ok (.aload_n 0, 1) := by decide +kernel
theorem dX12_joinLength_34 : decode cX12_joinLength 34 = .ok (.iload_n 2, 1) := by decide +kernel
theorem dX12_joinLength_35 : decode cX12_joinLength 35 = .ok (.iload_n 3, 1) := by decide +kernel
theorem dX12_joinLength_36 : decode cX12_joinLength 36 = .ok (.invokevirtual 195, 3) := by decide +kernel
theorem dX12_joinLength_39 : decode cX12_joinLength 39 = .ok (.ireturn, 1) := by decide +kernel
set_option maxRecDepth 20000 in
theorem ggX12_joinStep_X12_findPeak : GoodIn wsX12_joinStep wsX12_findPeak := goodIn_r _ [7, 8, 9, 10, 11, 52, 53, 54, 55, 56, 57, 58, 59, 60, 61, 62, 63, 64, 65, 66, 67, 68, 69, 70, 71, 72, 73, 74, 75, 76, 77, 78, 79, 80, 81, 82, 83, 84, 85, 86, 87, 88, 89, 90, 91, 92, 93, 94, 95, 96, 97, 98, 99, 100, 101, 102, 103] (by decide +kernel) (by decide +kernel)
set_option maxRecDepth 20000 in
theorem gX12_joinStep_X12_findPeak : GoodIn wsX12_joinStep (wsV RX12 178 RX12 yX12_findPeak wsX12_findPeak) := goodIn_app (goodIn_of _ (by decide +kernel)) ggX12_joinStep_X12_findPeak
set_option maxRecDepth 20000 in
theorem ggX12_joinStep_X12_isSide : GoodIn wsX12_joinStep wsX12_isSide := goodIn_r _ [14, 15, 16, 6, 17] (by decide +kernel) (by decide +kernel)
set_option maxRecDepth 20000 in
theorem gX12_joinStep_X12_isSide : GoodIn wsX12_joinStep (va_wsS RX12 181 yX12_isSide wsX12_isSide) := goodIn_app (goodIn_of _ (by decide +kernel)) ggX12_joinStep_X12_isSide
set_option maxRecDepth 20000 in
theorem ggX12_joinStep_X12_valleyOfPeak : GoodIn wsX12_joinStep wsX12_valleyOfPeak := goodIn_r _ [21, 22, 23, 24, 25, 6, 26, 27, 28, 29, 8, 9, 30, 31, 32, 33, 10, 11, 34, 35, 36, 37, 38, 39, 40, 41, 42, 52, 53, 54, 55, 56, 57, 58, 59, 60, 61, 62, 63, 64, 65, 66, 67, 68, 69, 70, 71, 72, 73, 74, 75, 76, 77, 78, 79, 80, 81, 82, 83, 84, 85, 86, 87, 88, 89, 90, 91, 92, 93, 94, 95, 96, 97, 98, 99, 100, 101, 102, 103] (by decide +kernel) (by decide +kernel)
set_option maxRecDepth 20000 in
theorem gX12_joinStep_X12_valleyOfPeak : GoodIn wsX12_joinStep (wsV RX12 199 RX12 yX12_valleyOfPeak wsX12_valleyOfPeak) := goodIn_app (goodIn_of _ (by decide +kernel)) ggX12_joinStep_X12_valleyOfPeak
set_option maxRecDepth 20000 in
theorem ggX12_joinStep_X12_findPath : GoodIn wsX12_joinStep wsX12_findPath := goodIn_r _ [46, 27, 47, 8, 9, 29, 1, 2, 30, 31, 32, 6, 33, 10, 11, 34, 35, 36, 37, 38, 39, 40, 41, 42, 28, 48, 49, 50, 51, 52, 53, 54, 55, 56, 57, 58, 59, 60, 61, 62, 63, 64, 65, 66, 67, 68, 69, 70, 71, 72, 73, 74, 75, 76, 77, 78, 79, 80, 81, 82, 83, 84, 85, 86, 87, 88, 89, 90, 91, 92, 93, 94, 95, 96, 97, 98, 99, 100, 101, 102, 103] (by decide +kernel) (by decide +kernel)
set_option maxRecDepth 20000 in
theorem gX12_joinStep_X12_findPath : GoodIn wsX12_joinStep (wsV RX12 209 RX12 yX12_findPath wsX12_findPath) := goodIn_app (goodIn_of _ (by decide +kernel)) ggX12_joinStep_X12_findPath
set_option maxRecDepth 20000 in
theorem ggX12_joinStep_X12_isBetween : GoodIn wsX12_joinStep wsX12_isBetween := goodIn_r _ [17] (by decide +kernel) (by decide +kernel)
set_option maxRecDepth 20000 in
theorem gX12_joinStep_X12_isBetween : GoodIn wsX12_joinStep (va_wsS RX12 128 yX12_isBetween wsX12_isBetween) := goodIn_app (goodIn_of _ (by decide +kernel)) ggX12_joinStep_X12_isBetween
theorem dX12_joinStep_0 : decode cX12_joinStep 0 = .ok (.aload_n 0, 1) := by decide +kernel
theorem dX12_joinStep_1 : decode cX12_joinStep 1 = .ok (.iload_n 1, 1) := by decide +kernel
theorem dX12_joinStep_2 : decode cX12_joinStep 2 = .ok (.invokevirtual 178, 3) := by decide +kernel
theorem dX12_joinStep_5 : decode cX12_joinStep 5 = .ok (.ifCond .eq 10, 3) := by decide +kernel
theorem dX12_joinStep_8 : decode cX12_joinStep 8 = .ok (.iload_n 2, 1) := by decide +kernel
theorem dX12_joinStep_9 : decode cX12_joinStep 9 = .ok (.invokestatic 181, 3) := by decide +kernel
theorem dX12_joinStep_12 : decode cX12_joinStep 12 = .ok (.ifCond .ne 5, 3) := by decide +kernel
theorem dX12_joinStep_15 : decode cX12_joinStep 15 = .ok (.iconst (-1), 1) := by decide +kernel
theorem dX12_joinStep_16 : decode cX12_joinStep 16 = .ok (.ireturn, 1) := by decide +kernel
theorem dX12_joinStep_17 : decode cX12_joinStep 17 = .ok (.aload_n 0, 1) := by decide +kernel
theorem dX12_joinStep_18 : decode cX12_joinStep 18 = .ok (.invokevirtual 199, 3) := by decide +kernel
theorem dX12_joinStep_21 : decode cX12_joinStep 21 = .ok (.istore 4, 2) := by decide +kernel
theorem dX12_joinStep_23 : decode cX12_joinStep 23 = .ok (.iload 4, 2) := by decide +kernel
theorem dX12_joinStep_25 : decode cX12_joinStep 25 = .ok (.bipush (-2), 2) := by decide +kernel
theorem dX12_joinStep_27 : decode cX12_joinStep 27 = .ok (.if_icmp .ne 6, 3) := by decide +kernel
theorem dX12_joinStep_30 : decode cX12_joinStep 30 = .ok (.bipush (-2), 2) := by decide +kernel
theorem dX12_joinStep_32 : decode cX12_joinStep 32 = .ok (.ireturn, 1) := by decide +kernel
theorem dX12_joinStep_33 : decode cX12_joinStep 33 = .ok (.aload_n 0, 1) := by decide +kernel
theorem dX12_joinStep_34 : decode cX12_joinStep 34 = .ok (.iload_n 2, 1) := by decide +kernel
theorem dX12_joinStep_35 : decode cX12_joinStep 35 = .ok (.iload 4, 2) := by decide +kernel
theorem dX12_joinStep_37 : decode cX12_joinStep 37 = .ok (.invokevirtual 209, 3) := by decide +kernel
theorem dX12_joinStep_40 : decode cX12_joinStep 40 = .ok (.iload_n 3, 1) := by decide +kernel
theorem dX12_joinStep_41 : decode cX12_joinStep 41 = .ok (.iconst 0, 1) := by decide +kernel
theorem dX12_joinStep_42 : decode cX12_joinStep 42 = .ok (.aload_n 0, 1) := by decide +kernel
theorem dX12_joinStep_43 : decode cX12_joinStep 43 = .ok (.getfield 202, 3) := by decide +kernel
theorem dX12_joinStep_46 : decode cX12_joinStep 46 = .ok (.iconst 1, 1) := by decide +kernel
theorem dX12_joinStep_47 : decode cX12_joinStep 47 = .ok (.isub, 1) := by decide +kernel
theorem dX12_joinStep_48 : decode cX12_joinStep 48 = .ok (.invokestatic 128, 3) := by decide +kernel
theorem dX12_joinStep_51 : decode cX12_joinStep 51 = .ok (.ifCond .eq 12, 3) := by decide +kernel
theorem dX12_joinStep_54 : decode cX12_joinStep 54 = .ok (.aload_n 0, 1) := by decide +kernel
theorem dX12_joinStep_55 : decode cX12_joinStep 55 = .ok (.getfield 47, 3) := by decide +kernel
theorem dX12_joinStep_58 : decode cX12_joinStep 58 = .ok (.iload_n 3, 1) := by decide +kernel
theorem dX12_joinStep_59 : decode cX12_joinStep 59 = .ok (.iaload, 1) := by decide +kernel
theorem dX12_joinStep_60 : decode cX12_joinStep 60 = .ok (.goto 5, 3) := by decide +kernel
theorem dX12_joinStep_63 : decode cX12_joinStep 63 = .ok (.bipush (-2), 2) := by decide +kernel
theorem dX12_joinStep_65 : decode cX12_joinStep 65 = .ok (.ireturn, 1) := by decide +kernel
set_option maxRecDepth 20000 in
theorem ggX12_decreasingCount_X12_isPeakDecreasing : GoodIn wsX12_decreasingCount wsX12_isPeakDecreasing := goodIn_r _ [7, 8, 9, 10, 11, 12, 6, 13, 14, 15, 16, 17, 18, 19, 20, 21, 1, 2, 22, 23, 24, 25, 26, 27, 28, 29, 30, 31, 32, 33, 34, 35, 36, 37, 38, 39, 40, 41, 42, 43, 44, 45, 46, 47, 48, 49, 50, 51, 52, 53, 54, 55, 56, 57, 58, 59, 60, 61, 62, 63, 64, 65, 66, 67, 68, 69, 70, 71, 72, 73, 74, 75, 76, 77, 78, 79, 80, 81, 82, 83, 84, 85, 86] (by decide +kernel) (by decide +kernel)
set_option maxRecDepth 20000 in
theorem gX12_decreasingCount_X12_isPeakDecreasing : GoodIn wsX12_decreasingCount (wsV RX12 213 RX12 yX12_isPeakDecreasing wsX12_isPeakDecreasing) := goodIn_app (goodIn_of _ (by decide +kernel)) ggX12_decreasingCount_X12_isPeakDecreasing
theorem dX12_decreasingCount_0 : decode cX12_decreasingCount 0 = .ok (.iconst 0, 1) := by decide +kernel
theorem dX12_decreasingCount_1 : decode cX12_decreasingCount 1 = .ok (.istore_n 1, 1) := by decide +kernel
theorem dX12_decreasingCount_2 : decode cX12_decreasingCount 2 = .ok (.iconst 0, 1) := by decide +kernel
theorem dX12_decreasingCount_3 : decode cX12_decreasingCount 3 = .ok (.istore_n 2, 1) := by decide +kernel
theorem dX12_decreasingCount_4 : decode cX12_decreasingCount 4 = .ok (.iload_n 2, 1) := by decide +kernel
theorem dX12_decreasingCount_5 : decode cX12_decreasingCount 5 = .ok (.aload_n 0, 1) := by decide +kernel
theorem dX12_decreasingCount_6 : decode cX12_decreasingCount 6 = .ok (.getfield 135, 3) := by decide +kernel
theorem dX12_decreasingCount_9 : decode cX12_decreasingCount 9 = .ok (.if_icmp .ge 59, 3) := by decide +kernel
theorem dX12_decreasingCount_12 : decode cX12_decreasingCount 12 = .ok (.iload_n 2, 1) := by decide +kernel
theorem dX12_decreasingCount_13 : decode cX12_decreasingCount 13 = .ok (.iconst 1, 1) := by decide +kernel
theorem dX12_decreasingCount_14 : decode cX12_decreasingCount 14 = .ok (.iadd, 1) := by decide +kernel
theorem dX12_decreasingCount_15 : decode cX12_decreasingCount 15 = .ok (.istore_n 3, 1) := by decide +kernel
theorem dX12_decreasingCount_16 : decode cX12_decreasingCount 16 = .ok (.iload_n 3, 1) := by decide +kernel
theorem dX12_decreasingCount_17 : decode cX12_decreasingCount 17 = .ok (.aload_n 0, 1) := by decide +kernel
theorem dX12_decreasingCount_18 : decode cX12_decreasingCount 18 = .ok (.getfield 135, 3) := by decide +kernel
theorem dX12_decreasingCount_21 : decode cX12_decreasingCount 21 = .ok (.if_icmp .ge 41, 3) := by decide +kernel
theorem dX12_decreasingCount_24 : decode cX12_decreasingCount 24 = .ok (.iload_n 1, 1) := by decide +kernel
theorem dX12_decreasingCount_25 : decode cX12_decreasingCount 25 = .ok (.aload_n 0, 1) := by decide +kernel
theorem dX12_decreasingCount_26 : decode cX12_decreasingCount 26 = .ok (.getfield 17, 3) := by decide +kernel
theorem dX12_decreasingCount_29 : decode cX12_decreasingCount 29 = .ok (.iload_n 2, 1) := by decide +kernel
theorem dX12_decreasingCount_30 : decode cX12_decreasingCount 30 = .ok (.iaload, 1) := by decide +kernel
theorem dX12_decreasingCount_31 : decode cX12_decreasingCount 31 = .ok (.aload_n 0, 1) := by decide +kernel
theorem dX12_decreasingCount_32 : decode cX12_decreasingCount 32 = .ok (.getfield 17, 3) := by decide +kernel
theorem dX12_decreasingCount_35 : decode cX12_decreasingCount 35 = .ok (.iload_n 3, 1) := by decide +kernel
theorem dX12_decreasingCount_36 : decode cX12_decreasingCount 36 = .ok (.iaload, 1) := by decide +kernel
theorem dX12_decreasingCount_37 : decode cX12_decreasingCount 37 = .ok (.if_icmp .ne 16, 3) := by decide +kernel
theorem dX12_decreasingCount_40 : decode cX12_decreasingCount 40 = .ok (.aload_n 0, 1) := by decide +kernel
theorem dX12_decreasingCount_41 : decode cX12_decreasingCount 41 = .ok (.iload_n 2, 1) := by decide +kernel
theorem dX12_decreasingCount_42 : decode cX12_decreasingCount 42 = .ok (.iload_n 3, 1) := by decide +kernel
theorem dX12_decreasingCount_43 : decode cX12_decreasingCount 43 = .ok (.invokevirtual 213, 3) := by decide +kernel
theorem dX12_decreasingCount_46 : decode cX12_decreasingCount 46 = .ok (.ifCond .eq 7, 3) := by decide +kernel
theorem dX12_decreasingCount_49 : decode cX12_decreasingCount 49 = .ok (.iconst 1, 1) := by decide +kernel
theorem dX12_decreasingCount_50 : decode cX12_decreasingCount 50 = .ok (.goto 4, 3) := by decide +kernel
theorem dX12_decreasingCount_53 : decode cX12_decreasingCount 53 = .ok (.iconst 0, 1) := by decide +kernel
theorem dX12_decreasingCount_54 : decode cX12_decreasingCount 54 = .ok (.iadd, 1) := by decide +kernel
theorem dX12_decreasingCount_55 : decode cX12_decreasingCount 55 = .ok (.istore_n 1, 1) := by decide +kernel
theorem dX12_decreasingCount_56 : decode cX12_decreasingCount 56 = .ok (.iinc 3 1, 3) := by decide +kernel
theorem dX12_decreasingCount_59 : decode cX12_decreasingCount 59 = .ok (.goto (-43), 3) := by decide +kernel
theorem dX12_decreasingCount_62 : decode cX12_decreasingCount 62 = .ok (.iinc 2 1, 3) := by decide +kernel
theorem dX12_decreasingCount_65 : decode cX12_decreasingCount 65 = .ok (.goto (-61), 3) := by decide +kernel
theorem dX12_decreasingCount_68 : decode cX12_decreasingCount 68 = .ok (.iload_n 1, 1) := by decide +kernel
theorem dX12_decreasingCount_69 : decode cX12_decreasingCount 69 = .ok (.ireturn, 1) := by decide +kernel
set_option maxRecDepth 20000 in
theorem ggX12_isPeakDecreasing_X12_valleyOfPeak : GoodIn wsX12_isPeakDecreasing wsX12_valleyOfPeak := goodIn_r _ [7, 8, 9, 10, 11, 6, 12, 13, 14, 15, 16, 17, 18, 19, 20, 21, 1, 2, 22, 23, 24, 25, 26, 27, 28, 29, 30, 31, 32, 33, 34, 35, 36, 37, 38, 39, 40, 41, 42, 43, 44, 45, 46, 47, 48, 49, 50, 51, 52, 53, 54, 55, 56, 57, 58, 59, 60, 61, 62, 63, 64, 65, 66, 67, 68, 69, 70, 71, 72, 73, 74, 75, 76, 77, 78, 79, 80, 81, 82] (by decide +kernel) (by decide +kernel)
set_option maxRecDepth 20000 in
theorem gX12_isPeakDecreasing_X12_valleyOfPeak : GoodIn wsX12_isPeakDecreasing (wsV RX12 199 RX12 yX12_valleyOfPeak wsX12_valleyOfPeak) := goodIn_app (goodIn_of _ (by decide +kernel)) ggX12_isPeakDecreasing_X12_valleyOfPeak
theorem dX12_isPeakDecreasing_0 : decode cX12_isPeakDecreasing 0 = .ok (.aload_n 0, 1) := by decide +kernel
theorem dX12_isPeakDecreasing_1 : decode cX12_isPeakDecreasing 1 = .ok (.iload_n 1, 1) := by decide +kernel
theorem dX12_isPeakDecreasing_2 : decode cX12_isPeakDecreasing 2 = .ok (.putfield 172, 3) := by decide +kernel
theorem dX12_isPeakDecreasing_5 : decode cX12_isPeakDecreasing 5 = .ok (.aload_n 0, 1) := by decide +kernel
theorem dX12_isPeakDecreasing_6 : decode cX12_isPeakDecreasing 6 = .ok (.iload_n 2, 1) := by decide +kernel
theorem dX12_isPeakDecreasing_7 : decode cX12_isPeakDecreasing 7 = .ok (.putfield 175, 3) := by decide +kernel
theorem dX12_isPeakDecreasing_10 : decode cX12_isPeakDecreasing 10 = .ok (.aload_n 0, 1) := by decide +kernel
theorem dX12_isPeakDecreasing_11 : decode cX12_isPeakDecreasing 11 = .ok (.invokevirtual 199, 3) := by decide +kernel
theorem dX12_isPeakDecreasing_14 : decode cX12_isPeakDecreasing 14 = .ok (.bipush (-2), 2) := by decide +kernel
theorem dX12_isPeakDecreasing_16 : decode cX12_isPeakDecreasing 16 = .ok (.if_icmp .eq 7, 3) := by decide +kernel
theorem dX12_isPeakDecreasing_19 : decode cX12_isPeakDecreasing 19 = .ok (.iconst 1, 1) := by decide +kernel
theorem dX12_isPeakDecreasing_20 : decode cX12_isPeakDecreasing 20 = .ok (.goto 4, 3) := by decide +kernel
theorem dX12_isPeakDecreasing_23 : decode cX12_isPeakDecreasing 23 = .ok (.iconst 0, 1) := by decide +kernel
theorem dX12_isPeakDecreasing_24 : decode cX12_isPeakDecreasing 24 = .ok (.ireturn, 1) := by decide +kernel
set_option maxRecDepth 20000 in
theorem ggX12_firstFailure_X12_isPeakDecreasing : GoodIn wsX12_firstFailure wsX12_isPeakDecreasing := goodIn_r _ [7, 8, 9, 10, 11, 12, 6, 13, 14, 15, 16, 17, 18, 19, 20, 21, 1, 2, 22, 23, 24, 25, 26, 27, 28, 29, 30, 31, 32, 33, 34, 35, 36, 37, 38, 39, 40, 41, 42, 43, 44, 45, 46, 47, 48, 49, 50, 51, 52, 53, 54, 55, 56, 57, 58, 59, 60, 61, 62, 63, 64, 65, 66, 67, 68, 69, 70, 71, 72, 73, 74, 75, 76, 77, 78, 79, 80, 81, 82, 83, 84, 85, 86] (by decide +kernel) (by decide +kernel)
set_option maxRecDepth 20000 in
theorem gX12_firstFailure_X12_isPeakDecreasing : GoodIn wsX12_firstFailure (wsV RX12 213 RX12 yX12_isPeakDecreasing wsX12_isPeakDecreasing) := goodIn_app (goodIn_of _ (by decide +kernel)) ggX12_firstFailure_X12_isPeakDecreasing
theorem dX12_firstFailure_0 : decode cX12_firstFailure 0 = .ok (.iconst 0, 1) := by decide +kernel
theorem dX12_firstFailure_1 : decode cX12_firstFailure 1 = .ok (.istore_n 1, 1) := by decide +kernel
theorem dX12_firstFailure_2 : decode cX12_firstFailure 2 = .ok (.iconst 0, 1) := by decide +kernel
theorem dX12_firstFailure_3 : decode cX12_firstFailure 3 = .ok (.istore_n 2, 1) := by decide +kernel
theorem dX12_firstFailure_4 : decode cX12_firstFailure 4 = .ok (.iload_n 2, 1) := by decide +kernel
theorem dX12_firstFailure_5 : decode cX12_firstFailure 5 = .ok (.aload_n 0, 1) := by decide +kernel
theorem dX12_firstFailure_6 : decode cX12_firstFailure 6 = .ok (.getfield 135, 3) := by decide +kernel
theorem dX12_firstFailure_9 : decode cX12_firstFailure 9 = .ok (.if_icmp .ge 56, 3) := by decide +kernel
theorem dX12_firstFailure_12 : decode cX12_firstFailure 12 = .ok (.iload_n 2, 1) := by decide +kernel
theorem dX12_firstFailure_13 : decode cX12_firstFailure 13 = .ok (.iconst 1, 1) := by decide +kernel
theorem dX12_firstFailure_14 : decode cX12_firstFailure 14 = .ok (.iadd, 1) := by decide +kernel
theorem dX12_firstFailure_15 : decode cX12_firstFailure 15 = .ok (.istore_n 3, 1) := by decide +kernel
theorem dX12_firstFailure_16 : decode cX12_firstFailure 16 = .ok (.iload_n 3, 1) := by decide +kernel
theorem dX12_firstFailure_17 : decode cX12_firstFailure 17 = .ok (.aload_n 0, 1) := by decide +kernel
theorem dX12_firstFailure_18 : decode cX12_firstFailure 18 = .ok (.getfield 135, 3) := by decide +kernel
theorem dX12_firstFailure_21 : decode cX12_firstFailure 21 = .ok (.if_icmp .ge 38, 3) := by decide +kernel
theorem dX12_firstFailure_24 : decode cX12_firstFailure 24 = .ok (.aload_n 0, 1) := by decide +kernel
theorem dX12_firstFailure_25 : decode cX12_firstFailure 25 = .ok (.getfield 17, 3) := by decide +kernel
theorem dX12_firstFailure_28 : decode cX12_firstFailure 28 = .ok (.iload_n 2, 1) := by decide +kernel
theorem dX12_firstFailure_29 : decode cX12_firstFailure 29 = .ok (.iaload, 1) := by decide +kernel
theorem dX12_firstFailure_30 : decode cX12_firstFailure 30 = .ok (.aload_n 0, 1) := by decide +kernel
theorem dX12_firstFailure_31 : decode cX12_firstFailure 31 = .ok (.getfield 17, 3) := by decide +kernel
theorem dX12_firstFailure_34 : decode cX12_firstFailure 34 = .ok (.iload_n 3, 1) := by decide +kernel
theorem dX12_firstFailure_35 : decode cX12_firstFailure 35 = .ok (.iaload, 1) := by decide +kernel
theorem dX12_firstFailure_36 : decode cX12_firstFailure 36 = .ok (.if_icmp .ne 17, 3) := by decide +kernel
theorem dX12_firstFailure_39 : decode cX12_firstFailure 39 = .ok (.aload_n 0, 1) := by decide +kernel
theorem dX12_firstFailure_40 : decode cX12_firstFailure 40 = .ok (.iload_n 2, 1) := by decide +kernel
theorem dX12_firstFailure_41 : decode cX12_firstFailure 41 = .ok (.iload_n 3, 1) := by decide +kernel
theorem dX12_firstFailure_42 : decode cX12_firstFailure 42 = .ok (.invokevirtual 213, 3) := by decide +kernel
theorem dX12_firstFailure_45 : decode cX12_firstFailure 45 = .ok (.ifCond .ne 5, 3) := by decide +kernel
theorem dX12_firstFailure_48 : decode cX12_firstFailure 48 = .ok (.iload_n 1, 1) := by decide +kernel
theorem dX12_firstFailure_49 : decode cX12_firstFailure 49 = .ok (.ireturn, 1) := by decide +kernel
theorem dX12_firstFailure_50 : decode cX12_firstFailure 50 = .ok (.iinc 1 1, 3) := by decide +kernel
theorem dX12_firstFailure_53 : decode cX12_firstFailure 53 = .ok (.iinc 3 1, 3) := by decide +kernel
theorem dX12_firstFailure_56 : decode cX12_firstFailure 56 = .ok (.goto (-40), 3) := by decide +kernel
theorem dX12_firstFailure_59 : decode cX12_firstFailure 59 = .ok (.iinc 2 1, 3) := by decide +kernel
theorem dX12_firstFailure_62 : decode cX12_firstFailure 62 = .ok (.goto (-58), 3) := by decide +kernel
theorem dX12_firstFailure_65 : decode cX12_firstFailure 65 = .ok (.bipush (-2), 2) := by decide +kernel
theorem dX12_firstFailure_67 : decode cX12_firstFailure 67 = .ok (.ireturn, 1) := by decide +kernel
theorem dX12_write_0 : decode cX12_write 0 = .ok (.aload_n 0, 1) := by decide +kernel
theorem dX12_write_1 : decode cX12_write 1 = .ok (.getfield 50, 3) := by decide +kernel
theorem dX12_write_4 : decode cX12_write 4 = .ok (.aload_n 0, 1) := by decide +kernel
theorem dX12_write_5 : decode cX12_write 5 = .ok (.getfield 216, 3) := by decide +kernel
theorem dX12_write_8 : decode cX12_write 8 = .ok (.iload_n 1, 1) := by decide +kernel
theorem dX12_write_9 : decode cX12_write 9 = .ok (.iastore, 1) := by decide +kernel
theorem dX12_write_10 : decode cX12_write 10 = .ok (.aload_n 0, 1) := by decide +kernel
theorem dX12_write_11 : decode cX12_write 11 = .ok (.dup, 1) := by decide +kernel
theorem dX12_write_12 : decode cX12_write 12 = .ok (.getfield 216, 3) := by decide +kernel
theorem dX12_write_15 : decode cX12_write 15 = .ok (.iconst 1, 1) := by decide +kernel
theorem dX12_write_16 : decode cX12_write 16 = .ok (.iadd, 1) := by decide +kernel
theorem dX12_write_17 : decode cX12_write 17 = .ok (.putfield 216, 3) := by decide +kernel
theorem dX12_write_20 : decode cX12_write 20 = .ok (.return_, 1) := by decide +kernel
set_option maxRecDepth 20000 in
theorem ggX12_writeNumber_X12_write : GoodIn wsX12_writeNumber wsX12_write := goodIn_r _ [5, 6, 7, 8, 9, 10, 11, 12, 13, 14, 15, 16, 17, 18, 19, 20, 21, 22, 23, 24, 25, 26, 27, 28, 29, 30, 31, 32, 33, 34, 35, 36, 37, 38, 39, 40, 41, 42, 43, 44, 45, 46, 47, 48, 49, 50, 51, 52, 53, 54, 55, 56, 57, 58, 59] (by decide +kernel) (by decide +kernel)
set_option maxRecDepth 20000 in
theorem gX12_writeNumber_X12_write : GoodIn wsX12_writeNumber (wsV RX12 219 RX12 yX12_write wsX12_write) := goodIn_app (goodIn_of _ (by decide +kernel)) ggX12_writeNumber_X12_write
theorem dX12_writeNumber_0 : decode cX12_writeNumber 0 = .ok (.iload_n 1, 1) := by decide +kernel
theorem dX12_writeNumber_1 : decode cX12_writeNumber 1 = .ok (.bipush 10, 2) := by decide +kernel
theorem dX12_writeNumber_3 : decode cX12_writeNumber 3 = .ok (.if_icmp .lt 14, 3) := by decide +kernel
theorem dX12_writeNumber_6 : decode cX12_writeNumber 6 = .ok (.aload_n 0, 1) := by decide +kernel
theorem dX12_writeNumber_7 : decode cX12_writeNumber 7 = .ok (.bipush 48, 2) := by decide +kernel
theorem dX12_writeNumber_9 : decode cX12_writeNumber 9 = .ok (.iload_n 1, 1) := by decide +kernel
theorem dX12_writeNumber_10 : decode cX12_writeNumber 10 = .ok (.bipush 10, 2) := by decide +kernel
theorem dX12_writeNumber_12 : decode cX12_writeNumber 12 = .ok (.idiv, 1) := by decide +kernel
theorem dX12_writeNumber_13 : decode cX12_writeNumber 13 = .ok (.iadd, 1) := by decide +kernel
theorem dX12_writeNumber_14 : decode cX12_writeNumber 14 = .ok (.invokevirtual 219, 3) := by decide +kernel
theorem dX12_writeNumber_17 : decode cX12_writeNumber 17 = .ok (.aload_n 0, 1) := by decide +kernel
theorem dX12_writeNumber_18 : decode cX12_writeNumber 18 = .ok (.bipush 48, 2) := by decide +kernel
theorem dX12_writeNumber_20 : decode cX12_writeNumber 20 = .ok (.iload_n 1, 1) := by decide +kernel
theorem dX12_writeNumber_21 : decode cX12_writeNumber 21 = .ok (.bipush 10, 2) := by decide +kernel
theorem dX12_writeNumber_23 : decode cX12_writeNumber 23 = .ok (.irem, 1) := by decide +kernel
theorem dX12_writeNumber_24 : decode cX12_writeNumber 24 = .ok (.iadd, 1) := by decide +kernel
theorem dX12_writeNumber_25 : decode cX12_writeNumber 25 = .ok (.invokevirtual 219, 3) := by decide +kernel
theorem dX12_writeNumber_28 : decode cX12_writeNumber 28 = .ok (.return_, 1) := by decide +kernel
set_option maxRecDepth 20000 in
theorem ggX12_writePath_X12_findPath : GoodIn wsX12_writePath wsX12_findPath := goodIn_r _ [7, 8, 9, 10, 11, 12, 1, 2, 13, 14, 15, 6, 16, 17, 18, 19, 20, 21, 22, 23, 24, 25, 26, 27, 28, 29, 30, 31, 32, 43, 44, 45, 46, 47, 48, 49, 50, 51, 52, 53, 54, 55, 56, 57, 58, 59, 60, 61, 62, 63, 64, 65, 66, 67, 68, 69, 70, 71, 72, 73, 74, 75, 76, 77, 78, 79, 80, 81, 82, 83, 84, 85, 86, 87, 88, 89, 90, 91, 92, 93, 94] (by decide +kernel) (by decide +kernel)
set_option maxRecDepth 20000 in
theorem gX12_writePath_X12_findPath : GoodIn wsX12_writePath (wsV RX12 209 RX12 yX12_findPath wsX12_findPath) := goodIn_app (goodIn_of _ (by decide +kernel)) ggX12_writePath_X12_findPath
set_option maxRecDepth 20000 in
theorem ggX12_writePath_X12_write : GoodIn wsX12_writePath wsX12_write := goodIn_r _ [36, 37, 38, 43, 44, 45, 46, 47, 48, 49, 50, 51, 52, 53, 54, 55, 56, 57, 58, 59, 60, 61, 62, 63, 64, 65, 66, 67, 68, 69, 70, 71, 72, 73, 74, 75, 76, 77, 78, 79, 80, 81, 82, 83, 84, 85, 86, 87, 88, 89, 90, 91, 92, 93, 94] (by decide +kernel) (by decide +kernel)
set_option maxRecDepth 20000 in
theorem gX12_writePath_X12_write : GoodIn wsX12_writePath (wsV RX12 219 RX12 yX12_write wsX12_write) := goodIn_app (goodIn_of _ (by decide +kernel)) ggX12_writePath_X12_write
set_option maxRecDepth 20000 in
theorem ggX12_writePath_X12_writeNumber : GoodIn wsX12_writePath wsX12_writeNumber := goodIn_r _ [42, 33, 34, 35, 6, 36, 37, 38, 43, 44, 45, 46, 47, 48, 49, 50, 51, 52, 53, 54, 55, 56, 57, 58, 59, 60, 61, 62, 63, 64, 65, 66, 67, 68, 69, 70, 71, 72, 73, 74, 75, 76, 77, 78, 79, 80, 81, 82, 83, 84, 85, 86, 87, 88, 89, 90, 91, 92, 93, 94] (by decide +kernel) (by decide +kernel)
set_option maxRecDepth 20000 in
theorem gX12_writePath_X12_writeNumber : GoodIn wsX12_writePath (wsV RX12 222 RX12 yX12_writeNumber wsX12_writeNumber) := goodIn_app (goodIn_of _ (by decide +kernel)) ggX12_writePath_X12_writeNumber
theorem dX12_writePath_0 : decode cX12_writePath 0 = .ok (.aload_n 0, 1) := by decide +kernel
theorem dX12_writePath_1 : decode cX12_writePath 1 = .ok (.iload_n 1, 1) := by decide +kernel
theorem dX12_writePath_2 : decode cX12_writePath 2 = .ok (.iload_n 2, 1) := by decide +kernel
theorem dX12_writePath_3 : decode cX12_writePath 3 = .ok (.invokevirtual 209, 3) := by decide +kernel
theorem dX12_writePath_6 : decode cX12_writePath 6 = .ok (.iconst 0, 1) := by decide +kernel
theorem dX12_writePath_7 : decode cX12_writePath 7 = .ok (.istore_n 3, 1) := by decide +kernel
theorem dX12_writePath_8 : decode cX12_writePath 8 = .ok (.iload_n 3, 1) := by decide +kernel
theorem dX12_writePath_9 : decode cX12_writePath 9 = .ok (.aload_n 0, 1) := by decide +kernel
theorem dX12_writePath_10 : decode cX12_writePath 10 = .ok (.getfield 202, 3) := by decide +kernel
theorem dX12_writePath_13 : decode cX12_writePath 13 = .ok (.if_icmp .ge 25, 3) := by decide +kernel
theorem dX12_writePath_16 : decode cX12_writePath 16 = .ok (.aload_n 0, 1) := by decide +kernel
theorem dX12_writePath_17 : decode cX12_writePath 17 = .ok (.bipush 46, 2) := by decide +kernel
theorem dX12_writePath_19 : decode cX12_writePath 19 = .ok (.invokevirtual 219, 3) := by decide +kernel
theorem dX12_writePath_22 : decode cX12_writePath 22 = .ok (.aload_n 0, 1) := by decide +kernel
theorem dX12_writePath_23 : decode cX12_writePath 23 = .ok (.aload_n 0, 1) := by decide +kernel
theorem dX12_writePath_24 : decode cX12_writePath 24 = .ok (.getfield 47, 3) := by decide +kernel
theorem dX12_writePath_27 : decode cX12_writePath 27 = .ok (.iload_n 3, 1) := by decide +kernel
theorem dX12_writePath_28 : decode cX12_writePath 28 = .ok (.iaload, 1) := by decide +kernel
theorem dX12_writePath_29 : decode cX12_writePath 29 = .ok (.invokevirtual 222, 3) := by decide +kernel
theorem dX12_writePath_32 : decode cX12_writePath 32 = .ok (.iinc 3 1, 3) := by decide +kernel
theorem dX12_writePath_35 : decode cX12_writePath 35 = .ok (.goto (-27), 3) := by decide +kernel
theorem dX12_writePath_38 : decode cX12_writePath 38 = .ok (.return_, 1) := by decide +kernel
set_option maxRecDepth 20000 in
theorem ggX12_draw_X12_findPeak : GoodIn wsX12_draw wsX12_findPeak := goodIn_r _ [10, 11, 4, 3, 5, 60, 61, 62, 63, 64, 65, 66, 67, 68, 69, 70, 71, 72, 73, 74, 75, 76, 77, 78, 79, 80, 81, 82, 83, 84, 85, 86, 87, 88, 89, 90, 91, 92, 93, 94, 95, 96, 97, 98, 99, 100, 101, 102, 103, 104, 105, 106, 107, 108, 109, 110, 111] (by decide +kernel) (by decide +kernel)
set_option maxRecDepth 20000 in
theorem gX12_draw_X12_findPeak : GoodIn wsX12_draw (wsV RX12 178 RX12 yX12_findPeak wsX12_findPeak) := goodIn_app (goodIn_of _ (by decide +kernel)) ggX12_draw_X12_findPeak
set_option maxRecDepth 20000 in
theorem ggX12_draw_X12_writeNumber : GoodIn wsX12_draw wsX12_writeNumber := goodIn_r _ [15, 16, 17, 18, 9, 19, 20, 1, 60, 61, 62, 63, 64, 65, 66, 67, 68, 69, 70, 71, 72, 73, 74, 75, 76, 77, 78, 79, 80, 81, 82, 83, 84, 85, 86, 87, 88, 89, 90, 91, 92, 93, 94, 95, 96, 97, 98, 99, 100, 101, 102, 103, 104, 105, 106, 107, 108, 109, 110, 111] (by decide +kernel) (by decide +kernel)
set_option maxRecDepth 20000 in
theorem gX12_draw_X12_writeNumber : GoodIn wsX12_draw (wsV RX12 222 RX12 yX12_writeNumber wsX12_writeNumber) := goodIn_app (goodIn_of _ (by decide +kernel)) ggX12_draw_X12_writeNumber
set_option maxRecDepth 20000 in
theorem ggX12_draw_X12_write : GoodIn wsX12_draw wsX12_write := goodIn_r _ [19, 20, 1, 60, 61, 62, 63, 64, 65, 66, 67, 68, 69, 70, 71, 72, 73, 74, 75, 76, 77, 78, 79, 80, 81, 82, 83, 84, 85, 86, 87, 88, 89, 90, 91, 92, 93, 94, 95, 96, 97, 98, 99, 100, 101, 102, 103, 104, 105, 106, 107, 108, 109, 110, 111] (by decide +kernel) (by decide +kernel)
set_option maxRecDepth 20000 in
theorem gX12_draw_X12_write : GoodIn wsX12_draw (wsV RX12 219 RX12 yX12_write wsX12_write) := goodIn_app (goodIn_of _ (by decide +kernel)) ggX12_draw_X12_write
set_option maxRecDepth 20000 in
theorem ggX12_draw_X12_valleyOfPeak : GoodIn wsX12_draw wsX12_valleyOfPeak := goodIn_r _ [24, 25, 26, 27, 28, 9, 29, 30, 31, 2, 11, 4, 32, 33, 34, 35, 3, 5, 36, 37, 38, 39, 40, 41, 42, 43, 44, 60, 61, 62, 63, 64, 65, 66, 67, 68, 69, 70, 71, 72, 73, 74, 75, 76, 77, 78, 79, 80, 81, 82, 83, 84, 85, 86, 87, 88, 89, 90, 91, 92, 93, 94, 95, 96, 97, 98, 99, 100, 101, 102, 103, 104, 105, 106, 107, 108, 109, 110, 111] (by decide +kernel) (by decide +kernel)
set_option maxRecDepth 20000 in
theorem gX12_draw_X12_valleyOfPeak : GoodIn wsX12_draw (wsV RX12 199 RX12 yX12_valleyOfPeak wsX12_valleyOfPeak) := goodIn_app (goodIn_of _ (by decide +kernel)) ggX12_draw_X12_valleyOfPeak
set_option maxRecDepth 20000 in
theorem ggX12_draw_X12_writePath : GoodIn wsX12_draw wsX12_writePath := goodIn_r _ [48, 49, 50, 51, 52, 53, 9, 54, 30, 55, 11, 4, 2, 32, 33, 34, 35, 3, 5, 36, 37, 38, 39, 40, 41, 42, 43, 44, 31, 56, 57, 58, 59, 16, 17, 18, 19, 20, 1, 12, 13, 14, 15, 60, 61, 62, 63, 64, 65, 66, 67, 68, 69, 70, 71, 72, 73, 74, 75, 76, 77, 78, 79, 80, 81, 82, 83, 84, 85, 86, 87, 88, 89, 90, 91, 92, 93, 94, 95, 96, 97, 98, 99, 100, 101, 102, 103, 104, 105, 106, 107, 108, 109, 110, 111] (by decide +kernel) (by decide +kernel)
set_option maxRecDepth 20000 in
theorem gX12_draw_X12_writePath : GoodIn wsX12_draw (wsV RX12 225 RX12 yX12_writePath wsX12_writePath) := goodIn_app (goodIn_of _ (by decide +kernel)) ggX12_draw_X12_writePath
theorem dX12_draw_0 : decode cX12_draw 0 = .ok (.aload_n 0, 1) := by decide +kernel
theorem dX12_draw_1 : decode cX12_draw 1 = .ok (.iload_n 1, 1) := by decide +kernel
theorem dX12_draw_2 : decode cX12_draw 2 = .ok (.invokevirtual 178, 3) := by decide +kernel
theorem dX12_draw_5 : decode cX12_draw 5 = .ok (.ifCond .ne 5, 3) := by decide +kernel
theorem dX12_draw_8 : decode cX12_draw 8 = .ok (.iconst (-1), 1) := by decide +kernel
theorem dX12_draw_9 : decode cX12_draw 9 = .ok (.ireturn, 1) := by decide +kernel
theorem dX12_draw_10 : decode cX12_draw 10 = .ok (.aload_n 0, 1) := by decide +kernel
theorem dX12_draw_11 : decode cX12_draw 11 = .ok (.iconst 0, 1) := by decide +kernel
theorem dX12_draw_12 : decode cX12_draw 12 = .ok (.putfield 216, 3) := by decide +kernel
theorem dX12_draw_15 : decode cX12_draw 15 = .ok (.aload_n 0, 1) := by decide +kernel
theorem dX12_draw_16 : decode cX12_draw 16 = .ok (.aload_n 0, 1) := by decide +kernel
theorem dX12_draw_17 : decode cX12_draw 17 = .ok (.getfield 21, 3) := by decide +kernel
theorem dX12_draw_20 : decode cX12_draw 20 = .ok (.aload_n 0, 1) := by decide +kernel
theorem dX12_draw_21 : decode cX12_draw 21 = .ok (.getfield 172, 3) := by decide +kernel
theorem dX12_draw_24 : decode cX12_draw 24 = .ok (.iaload, 1) := by decide +kernel
theorem dX12_draw_25 : decode cX12_draw 25 = .ok (.invokevirtual 222, 3) := by decide +kernel
theorem dX12_draw_28 : decode cX12_draw 28 = .ok (.aload_n 0, 1) := by decide +kernel
theorem dX12_draw_29 : decode cX12_draw 29 = .ok (.bipush 60, 2) := by decide +kernel
theorem dX12_draw_31 : decode cX12_draw 31 = .ok (.invokevirtual 219, 3) := by decide +kernel
theorem dX12_draw_34 : decode cX12_draw 34 = .ok (.aload_n 0, 1) := by decide +kernel
theorem dX12_draw_35 : decode cX12_draw 35 = .ok (.aload_n 0, 1) := by decide +kernel
theorem dX12_draw_36 : decode cX12_draw 36 = .ok (.getfield 172, 3) := by decide +kernel
theorem dX12_draw_39 : decode cX12_draw 39 = .ok (.invokevirtual 222, 3) := by decide +kernel
theorem dX12_draw_42 : decode cX12_draw 42 = .ok (.aload_n 0, 1) := by decide +kernel
theorem dX12_draw_43 : decode cX12_draw 43 = .ok (.bipush 45, 2) := by decide +kernel
theorem dX12_draw_45 : decode cX12_draw 45 = .ok (.invokevirtual 219, 3) := by decide +kernel
theorem dX12_draw_48 : decode cX12_draw 48 = .ok (.aload_n 0, 1) := by decide +kernel
theorem dX12_draw_49 : decode cX12_draw 49 = .ok (.aload_n 0, 1) := by decide +kernel
theorem dX12_draw_50 : decode cX12_draw 50 = .ok (.getfield 17, 3) := by decide +kernel
theorem dX12_draw_53 : decode cX12_draw 53 = .ok (.aload_n 0, 1) := by decide +kernel
theorem dX12_draw_54 : decode cX12_draw 54 = .ok (.getfield 172, 3) := by decide +kernel
theorem dX12_draw_57 : decode cX12_draw 57 = .ok (.iaload, 1) := by decide +kernel
theorem dX12_draw_58 : decode cX12_draw 58 = .ok (.invokevirtual 222, 3) := by decide +kernel
theorem dX12_draw_61 : decode cX12_draw 61 = .ok (.aload_n 0, 1) := by decide +kernel
theorem dX12_draw_62 : decode cX12_draw 62 = .ok (.bipush 45, 2) := by decide +kernel
theorem dX12_draw_64 : decode cX12_draw 64 = .ok (.invokevirtual 219, 3) := by decide +kernel
theorem dX12_draw_67 : decode cX12_draw 67 = .ok (.aload_n 0, 1) := by decide +kernel
theorem dX12_draw_68 : decode cX12_draw 68 = .ok (.aload_n 0, 1) := by decide +kernel
theorem dX12_draw_69 : decode cX12_draw 69 = .ok (.getfield 175, 3) := by decide +kernel
theorem dX12_draw_72 : decode cX12_draw 72 = .ok (.invokevirtual 222, 3) := by decide +kernel
theorem dX12_draw_75 : decode cX12_draw 75 = .ok (.aload_n 0, 1) := by decide +kernel
theorem dX12_draw_76 : decode cX12_draw 76 = .ok (.bipush 62, 2) := by decide +kernel
theorem dX12_draw_78 : decode cX12_draw 78 = .ok (.invokevirtual 219, 3) := by decide +kernel
theorem dX12_draw_81 : decode cX12_draw 81 = .ok (.aload_n 0, 1) := by decide +kernel
theorem dX12_draw_82 : decode cX12_draw 82 = .ok (.aload_n 0, 1) := by decide +kernel
theorem dX12_draw_83 : decode cX12_draw 83 = .ok (.getfield 21, 3) := by decide +kernel
theorem dX12_draw_86 : decode cX12_draw 86 = .ok (.aload_n 0, 1) := by decide +kernel
theorem dX12_draw_87 : decode cX12_draw 87 = .ok (.getfield 175, 3) := by decide +kernel
theorem dX12_draw_90 : decode cX12_draw 90 = .ok (.iaload, 1) := by decide +kernel
theorem dX12_draw_91 : decode cX12_draw 91 = .ok (.invokevirtual 222, 3) := by decide +kernel
theorem dX12_draw_94 : decode cX12_draw 94 = .ok (.aload_n 0, 1) := by decide +kernel
theorem dX12_draw_95 : decode cX12_draw 95 = .ok (.invokevirtual 199, 3) := by decide +kernel
theorem dX12_draw_98 : decode cX12_draw 98 = .ok (.istore_n 2, 1) := by decide +kernel
theorem dX12_draw_99 : decode cX12_draw 99 = .ok (.iload_n 2, 1) := by decide +kernel
theorem dX12_draw_100 : decode cX12_draw 100 = .ok (.bipush (-2), 2) := by decide +kernel
theorem dX12_draw_102 : decode cX12_draw 102 = .ok (.if_icmp .ne 14, 3) := by decide +kernel
theorem dX12_draw_105 : decode cX12_draw 105 = .ok (.aload_n 0, 1) := by decide +kernel
theorem dX12_draw_106 : decode cX12_draw 106 = .ok (.bipush 33, 2) := by decide +kernel
theorem dX12_draw_108 : decode cX12_draw 108 = .ok (.invokevirtual 219, 3) := by decide +kernel
theorem dX12_draw_111 : decode cX12_draw 111 = .ok (.aload_n 0, 1) := by decide +kernel
theorem dX12_draw_112 : decode cX12_draw 112 = .ok (.getfield 216, 3) := by decide +kernel
theorem dX12_draw_115 : decode cX12_draw 115 = .ok (.ireturn, 1) := by decide +kernel
theorem dX12_draw_116 : decode cX12_draw 116 = .ok (.aload_n 0, 1) := by decide +kernel
theorem dX12_draw_117 : decode cX12_draw 117 = .ok (.bipush 58, 2) := by decide +kernel
theorem dX12_draw_119 : decode cX12_draw 119 = .ok (.invokevirtual 219, 3) := by decide +kernel
theorem dX12_draw_122 : decode cX12_draw 122 = .ok (.aload_n 0, 1) := by decide +kernel
theorem dX12_draw_123 : decode cX12_draw 123 = .ok (.iconst 0, 1) := by decide +kernel
theorem dX12_draw_124 : decode cX12_draw 124 = .ok (.iload_n 2, 1) := by decide +kernel
theorem dX12_draw_125 : decode cX12_draw 125 = .ok (.invokevirtual 225, 3) := by decide +kernel
theorem dX12_draw_128 : decode cX12_draw 128 = .ok (.aload_n 0, 1) := by decide +kernel
theorem dX12_draw_129 : decode cX12_draw 129 = .ok (.bipush 44, 2) := by decide +kernel
theorem dX12_draw_131 : decode cX12_draw 131 = .ok (.invokevirtual 219, 3) := by decide +kernel
theorem dX12_draw_134 : decode cX12_draw 134 = .ok (.aload_n 0, 1) := by decide +kernel
theorem dX12_draw_135 : decode cX12_draw 135 = .ok (.iconst 1, 1) := by decide +kernel
theorem dX12_draw_136 : decode cX12_draw 136 = .ok (.iload_n 2, 1) := by decide +kernel
theorem dX12_draw_137 : decode cX12_draw 137 = .ok (.invokevirtual 225, 3) := by decide +kernel
theorem dX12_draw_140 : decode cX12_draw 140 = .ok (.aload_n 0, 1) := by decide +kernel
theorem dX12_draw_141 : decode cX12_draw 141 = .ok (.getfield 216, 3) := by decide +kernel
theorem dX12_draw_144 : decode cX12_draw 144 = .ok (.ireturn, 1) := by decide +kernel
set_option maxRecDepth 20000 in
theorem ggX12_output_X12_isBetween : GoodIn wsX12_output wsX12_isBetween := goodIn_r _ [6] (by decide +kernel) (by decide +kernel)
set_option maxRecDepth 20000 in
theorem gX12_output_X12_isBetween : GoodIn wsX12_output (va_wsS RX12 128 yX12_isBetween wsX12_isBetween) := goodIn_app (goodIn_of _ (by decide +kernel)) ggX12_output_X12_isBetween
theorem dX12_output_0 : decode cX12_output 0 = .ok (.iload_n 1, 1) := by decide +kernel
theorem dX12_output_1 : decode cX12_output 1 = .ok (.iconst 0, 1) := by decide +kernel
theorem dX12_output_2 : decode cX12_output 2 = .ok (.aload_n 0, 1) := by decide +kernel
theorem dX12_output_3 : decode cX12_output 3 = .ok (.getfield 216, 3) := by decide +kernel
theorem dX12_output_6 : decode cX12_output 6 = .ok (.iconst 1, 1) := by decide +kernel
theorem dX12_output_7 : decode cX12_output 7 = .ok (.isub, 1) := by decide +kernel
theorem dX12_output_8 : decode cX12_output 8 = .ok (.invokestatic 128, 3) := by decide +kernel
theorem dX12_output_11 : decode cX12_output 11 = .ok (.ifCond .eq 12, 3) := by decide +kernel
theorem dX12_output_14 : decode cX12_output 14 = .ok (.aload_n 0, 1) := by decide +kernel
theorem dX12_output_15 : decode cX12_output 15 = .ok (.getfield 50, 3) := by decide +kernel
theorem dX12_output_18 : decode cX12_output 18 = .ok (.iload_n 1, 1) := by decide +kernel
theorem dX12_output_19 : decode cX12_output 19 = .ok (.iaload, 1) := by decide +kernel
theorem dX12_output_20 : decode cX12_output 20 = .ok (.goto 5, 3) := by decide +kernel
theorem dX12_output_23 : decode cX12_output 23 = .ok (.bipush (-2), 2) := by decide +kernel
theorem dX12_output_25 : decode cX12_output 25 = .ok (.ireturn, 1) := by decide +kernel
theorem dX12_copyPairs_0 : decode cX12_copyPairs 0 = .ok (.iconst 0, 1) := by decide +kernel
theorem dX12_copyPairs_1 : decode cX12_copyPairs 1 = .ok (.istore_n 2, 1) := by decide +kernel
theorem dX12_copyPairs_2 : decode cX12_copyPairs 2 = .ok (.iload_n 2, 1) := by decide +kernel
theorem dX12_copyPairs_3 : decode cX12_copyPairs 3 = .ok (.bipush 8, 2) := by decide +kernel
theorem dX12_copyPairs_5 : decode cX12_copyPairs 5 = .ok (.if_icmp .ge 33, 3) := by decide +kernel
theorem dX12_copyPairs_8 : decode cX12_copyPairs 8 = .ok (.iconst 0, 1) := by decide +kernel
theorem dX12_copyPairs_9 : decode cX12_copyPairs 9 = .ok (.istore_n 3, 1) := by decide +kernel
theorem dX12_copyPairs_10 : decode cX12_copyPairs 10 = .ok (.iload_n 3, 1) := by decide +kernel
theorem dX12_copyPairs_11 : decode cX12_copyPairs 11 = .ok (.bipush 8, 2) := by decide +kernel
theorem dX12_copyPairs_13 : decode cX12_copyPairs 13 = .ok (.if_icmp .ge 19, 3) := by decide +kernel
theorem dX12_copyPairs_16 : decode cX12_copyPairs 16 = .ok (.aload_n 1, 1) := by decide +kernel
theorem dX12_copyPairs_17 : decode cX12_copyPairs 17 = .ok (.iload_n 2, 1) := by decide +kernel
theorem dX12_copyPairs_18 : decode cX12_copyPairs 18 = .ok (.aaload, 1) := by decide +kernel
theorem dX12_copyPairs_19 : decode cX12_copyPairs 19 = .ok (.iload_n 3, 1) := by decide +kernel
theorem dX12_copyPairs_20 : decode cX12_copyPairs 20 = .ok (.aload_n 0, 1) := by decide +kernel
theorem dX12_copyPairs_21 : decode cX12_copyPairs 21 = .ok (.iload_n 2, 1) := by decide +kernel
theorem dX12_copyPairs_22 : decode cX12_copyPairs 22 = .ok (.aaload, 1) := by decide +kernel
theorem dX12_copyPairs_23 : decode cX12_copyPairs 23 = .ok (.iload_n 3, 1) := by decide +kernel
theorem dX12_copyPairs_24 : decode cX12_copyPairs 24 = .ok (.baload, 1) := by decide +kernel
theorem dX12_copyPairs_25 : decode cX12_copyPairs 25 = .ok (.bastore, 1) := by decide +kernel
theorem dX12_copyPairs_26 : decode cX12_copyPairs 26 = .ok (.iinc 3 1, 3) := by decide +kernel
theorem dX12_copyPairs_29 : decode cX12_copyPairs 29 = .ok (.goto (-19), 3) := by decide +kernel
theorem dX12_copyPairs_32 : decode cX12_copyPairs 32 = .ok (.iinc 2 1, 3) := by decide +kernel
theorem dX12_copyPairs_35 : decode cX12_copyPairs 35 = .ok (.goto (-33), 3) := by decide +kernel
theorem dX12_copyPairs_38 : decode cX12_copyPairs 38 = .ok (.return_, 1) := by decide +kernel
theorem dX12_copyRow_0 : decode cX12_copyRow 0 = .ok (.iconst 0, 1) := by decide +kernel
theorem dX12_copyRow_1 : decode cX12_copyRow 1 = .ok (.istore_n 2, 1) := by decide +kernel
theorem dX12_copyRow_2 : decode cX12_copyRow 2 = .ok (.iload_n 2, 1) := by decide +kernel
theorem dX12_copyRow_3 : decode cX12_copyRow 3 = .ok (.aload_n 0, 1) := by decide +kernel
theorem dX12_copyRow_4 : decode cX12_copyRow 4 = .ok (.arraylength, 1) := by decide +kernel
theorem dX12_copyRow_5 : decode cX12_copyRow 5 = .ok (.if_icmp .ge 15, 3) := by decide +kernel
theorem dX12_copyRow_8 : decode cX12_copyRow 8 = .ok (.aload_n 1, 1) := by decide +kernel
theorem dX12_copyRow_9 : decode cX12_copyRow 9 = .ok (.iload_n 2, 1) := by decide +kernel
theorem dX12_copyRow_10 : decode cX12_copyRow 10 = .ok (.aload_n 0, 1) := by decide +kernel
theorem dX12_copyRow_11 : decode cX12_copyRow 11 = .ok (.iload_n 2, 1) := by decide +kernel
theorem dX12_copyRow_12 : decode cX12_copyRow 12 = .ok (.iaload, 1) := by decide +kernel
theorem dX12_copyRow_13 : decode cX12_copyRow 13 = .ok (.iastore, 1) := by decide +kernel
theorem dX12_copyRow_14 : decode cX12_copyRow 14 = .ok (.iinc 2 1, 3) := by decide +kernel
theorem dX12_copyRow_17 : decode cX12_copyRow 17 = .ok (.goto (-15), 3) := by decide +kernel
theorem dX12_copyRow_20 : decode cX12_copyRow 20 = .ok (.return_, 1) := by decide +kernel
set_option maxRecDepth 20000 in
theorem ggX12_search_X12_copyRow : GoodIn wsX12_search wsX12_copyRow := goodIn_r _ [11] (by decide +kernel) (by decide +kernel)
set_option maxRecDepth 20000 in
theorem gX12_search_X12_copyRow : GoodIn wsX12_search (va_wsS RX12 228 yX12_copyRow wsX12_copyRow) := goodIn_app (goodIn_of _ (by decide +kernel)) ggX12_search_X12_copyRow
set_option maxRecDepth 20000 in
theorem ggX12_search_X12_copyPairs : GoodIn wsX12_search wsX12_copyPairs := goodIn_r _ [14] (by decide +kernel) (by decide +kernel)
set_option maxRecDepth 20000 in
theorem gX12_search_X12_copyPairs : GoodIn wsX12_search (va_wsS RX12 232 yX12_copyPairs wsX12_copyPairs) := goodIn_app (goodIn_of _ (by decide +kernel)) ggX12_search_X12_copyPairs
set_option maxRecDepth 20000 in
theorem ggX12_search_X12_useNaturalOrder : GoodIn wsX12_search wsX12_useNaturalOrder := goodIn_r _ [18, 3, 19, 20, 21, 10, 22, 23, 58, 59, 60, 61, 62, 63, 64, 65, 66, 67, 68, 69, 70, 71, 72, 73, 74, 75, 76, 77, 78, 79, 80, 81, 82, 83, 84, 85, 86, 87, 88, 89, 90, 91, 92, 93, 94, 95, 96, 97, 98, 99, 100, 101, 102, 103, 104, 105, 106, 107, 108, 109] (by decide +kernel) (by decide +kernel)
set_option maxRecDepth 20000 in
theorem gX12_search_X12_useNaturalOrder : GoodIn wsX12_search (wsV RX12 236 RX12 yX12_useNaturalOrder wsX12_useNaturalOrder) := goodIn_app (goodIn_of _ (by decide +kernel)) ggX12_search_X12_useNaturalOrder
set_option maxRecDepth 20000 in
theorem ggX12_search_X12_firstFailure : GoodIn wsX12_search wsX12_firstFailure := goodIn_r _ [27, 5, 28, 29, 30, 31, 10, 32, 33, 34, 35, 36, 37, 38, 39, 40, 41, 42, 43, 1, 44, 45, 46, 47, 48, 49, 50, 51, 52, 53, 23, 54, 55, 56, 57, 58, 59, 60, 61, 62, 63, 64, 65, 66, 67, 68, 69, 70, 71, 72, 73, 74, 75, 76, 77, 78, 79, 80, 81, 82, 83, 84, 85, 86, 87, 88, 89, 90, 91, 92, 93, 94, 95, 96, 97, 98, 99, 100, 101, 102, 103, 104, 105, 106, 107, 108, 109] (by decide +kernel) (by decide +kernel)
set_option maxRecDepth 20000 in
theorem gX12_search_X12_firstFailure : GoodIn wsX12_search (wsV RX12 239 RX12 yX12_firstFailure wsX12_firstFailure) := goodIn_app (goodIn_of _ (by decide +kernel)) ggX12_search_X12_firstFailure
set_option maxRecDepth 20000 in
theorem ggX12_search_X12_closeOrder : GoodIn wsX12_search wsX12_closeOrder := goodIn_r _ [22, 23, 3, 58, 59, 60, 61, 62, 63, 64, 65, 66, 67, 68, 69, 70, 71, 72, 73, 74, 75, 76, 77, 78, 79, 80, 81, 82, 83, 84, 85, 86, 87, 88, 89, 90, 91, 92, 93, 94, 95, 96, 97, 98, 99, 100, 101, 102, 103, 104, 105, 106, 107, 108, 109] (by decide +kernel) (by decide +kernel)
set_option maxRecDepth 20000 in
theorem gX12_search_X12_closeOrder : GoodIn wsX12_search (wsV RX12 142 RX12 yX12_closeOrder wsX12_closeOrder) := goodIn_app (goodIn_of _ (by decide +kernel)) ggX12_search_X12_closeOrder
theorem dX12_search_0 : decode cX12_search 0 = .ok (.aload_n 0, 1) := by decide +kernel
theorem dX12_search_1 : decode cX12_search 1 = .ok (.getfield 24, 3) := by decide +kernel
theorem dX12_search_4 : decode cX12_search 4 = .ok (.aload_n 0, 1) := by decide +kernel
theorem dX12_search_5 : decode cX12_search 5 = .ok (.getfield 60, 3) := by decide +kernel
theorem dX12_search_8 : decode cX12_search 8 = .ok (.invokestatic 228, 3) := by decide +kernel
theorem dX12_search_11 : decode cX12_search 11 = .ok (.aload_n 0, 1) := by decide +kernel
theorem dX12_search_12 : decode cX12_search 12 = .ok (.getfield 11, 3) := by decide +kernel
theorem dX12_search_15 : decode cX12_search 15 = .ok (.aload_n 0, 1) := by decide +kernel
theorem dX12_search_16 : decode cX12_search 16 = .ok (.getfield 63, 3) := by decide +kernel
theorem dX12_search_19 : decode cX12_search 19 = .ok (.invokestatic 232, 3) := by decide +kernel
theorem dX12_search_22 : decode cX12_search 22 = .ok (.aload_n 0, 1) := by decide +kernel
theorem dX12_search_23 : decode cX12_search 23 = .ok (.invokevirtual 236, 3) := by decide +kernel
theorem dX12_search_26 : decode cX12_search 26 = .ok (.pop, 1) := by decide +kernel
theorem dX12_search_27 : decode cX12_search 27 = .ok (.iconst 1, 1) := by decide +kernel
theorem dX12_search_28 : decode cX12_search 28 = .ok (.istore_n 3, 1) := by decide +kernel
theorem dX12_search_29 : decode cX12_search 29 = .ok (.iconst 0, 1) := by decide +kernel
theorem dX12_search_30 : decode cX12_search 30 = .ok (.istore 4, 2) := by decide +kernel
theorem dX12_search_32 : decode cX12_search 32 = .ok (.iload 4, 2) := by decide +kernel
theorem dX12_search_34 : decode cX12_search 34 = .ok (.aload_n 0, 1) := by decide +kernel
theorem dX12_search_35 : decode cX12_search 35 = .ok (.getfield 135, 3) := by decide +kernel
theorem dX12_search_38 : decode cX12_search 38 = .ok (.if_icmp .ge 13, 3) := by decide +kernel
theorem dX12_search_41 : decode cX12_search 41 = .ok (.iload_n 3, 1) := by decide +kernel
theorem dX12_search_42 : decode cX12_search 42 = .ok (.iload_n 1, 1) := by decide +kernel
theorem dX12_search_43 : decode cX12_search 43 = .ok (.imul, 1) := by decide +kernel
theorem dX12_search_44 : decode cX12_search 44 = .ok (.istore_n 3, 1) := by decide +kernel
theorem dX12_search_45 : decode cX12_search 45 = .ok (.iinc 4 1, 3) := by decide +kernel
theorem dX12_search_48 : decode cX12_search 48 = .ok (.goto (-16), 3) := by decide +kernel
theorem dX12_search_51 : decode cX12_search 51 = .ok (.iconst 0, 1) := by decide +kernel
theorem dX12_search_52 : decode cX12_search 52 = .ok (.istore 4, 2) := by decide +kernel
theorem dX12_search_54 : decode cX12_search 54 = .ok (.iconst 0, 1) := by decide +kernel
theorem dX12_search_55 : decode cX12_search 55 = .ok (.istore 5, 2) := by decide +kernel
theorem dX12_search_57 : decode cX12_search 57 = .ok (.iload 5, 2) := by decide +kernel
theorem dX12_search_59 : decode cX12_search 59 = .ok (.iload_n 3, 1) := by decide +kernel
theorem dX12_search_60 : decode cX12_search 60 = .ok (.if_icmp .ge 125, 3) := by decide +kernel
theorem dX12_search_63 : decode cX12_search 63 = .ok (.iload 4, 2) := by decide +kernel
theorem dX12_search_65 : decode cX12_search 65 = .ok (.ifCond .eq 7, 3) := by decide +kernel
theorem dX12_search_68 : decode cX12_search 68 = .ok (.iload_n 2, 1) := by decide +kernel
theorem dX12_search_69 : decode cX12_search 69 = .ok (.ifCond .ne 116, 3) := by decide +kernel
theorem dX12_search_72 : decode cX12_search 72 = .ok (.iload 5, 2) := by decide +kernel
theorem dX12_search_74 : decode cX12_search 74 = .ok (.istore 6, 2) := by decide +kernel
theorem dX12_search_76 : decode cX12_search 76 = .ok (.aload_n 0, 1) := by decide +kernel
theorem dX12_search_77 : decode cX12_search 77 = .ok (.getfield 135, 3) := by decide +kernel
theorem dX12_search_80 : decode cX12_search 80 = .ok (.iconst 1, 1) := by decide +kernel
theorem dX12_search_81 : decode cX12_search 81 = .ok (.isub, 1) := by decide +kernel
theorem dX12_search_82 : decode cX12_search 82 = .ok (.istore 7, 2) := by decide +kernel
theorem dX12_search_84 : decode cX12_search 84 = .ok (.iload 7, 2) := by decide +kernel
theorem dX12_search_86 : decode cX12_search 86 = .ok (.ifCond .lt 26, 3) := by decide +kernel
theorem dX12_search_89 : decode cX12_search 89 = .ok (.aload_n 0, 1) := by decide +kernel
theorem dX12_search_90 : decode cX12_search 90 = .ok (.getfield 24, 3) := by decide +kernel
theorem dX12_search_93 : decode cX12_search 93 = .ok (.iload 7, 2) := by decide +kernel
theorem dX12_search_95 : decode cX12_search 95 = .ok (.iload 6, 2) := by decide +kernel
theorem dX12_search_97 : decode cX12_search 97 = .ok (.iload_n 1, 1) := by decide +kernel
theorem dX12_search_98 : decode cX12_search 98 = .ok (.irem, 1) := by decide +kernel
theorem dX12_search_99 : decode cX12_search 99 = .ok (.iastore, 1) := by decide +kernel
theorem dX12_search_100 : decode cX12_search 100 = .ok (.iload 6, 2) := by decide +kernel
theorem dX12_search_102 : decode cX12_search 102 = .ok (.iload_n 1, 1) := by decide +kernel
theorem dX12_search_103 : decode cX12_search 103 = .ok (.idiv, 1) := by decide +kernel
theorem dX12_search_104 : decode cX12_search 104 = .ok (.istore 6, 2) := by decide +kernel
theorem dX12_search_106 : decode cX12_search 106 = .ok (.iinc 7 (-1), 3) := by decide +kernel
theorem dX12_search_109 : decode cX12_search 109 = .ok (.goto (-25), 3) := by decide +kernel
theorem dX12_search_112 : decode cX12_search 112 = .ok (.aload_n 0, 1) := by decide +kernel
theorem dX12_search_113 : decode cX12_search 113 = .ok (.invokevirtual 239, 3) := by decide +kernel
theorem dX12_search_116 : decode cX12_search 116 = .ok (.bipush (-2), 2) := by decide +kernel
theorem dX12_search_118 : decode cX12_search 118 = .ok (.if_icmp .ne 61, 3) := by decide +kernel
theorem dX12_search_121 : decode cX12_search 121 = .ok (.iinc 4 1, 3) := by decide +kernel
theorem dX12_search_124 : decode cX12_search 124 = .ok (.aload_n 0, 1) := by decide +kernel
theorem dX12_search_125 : decode cX12_search 125 = .ok (.iload_n 2, 1) := by decide +kernel
theorem dX12_search_126 : decode cX12_search 126 = .ok (.ifCond .eq 10, 3) := by decide +kernel
theorem dX12_search_129 : decode cX12_search 129 = .ok (.aload_n 0, 1) := by decide +kernel
theorem dX12_search_130 : decode cX12_search 130 = .ok (.getfield 135, 3) := by decide +kernel
theorem dX12_search_133 : decode cX12_search 133 = .ok (.goto 7, 3) := by decide +kernel
theorem dX12_search_136 : decode cX12_search 136 = .ok (.aload_n 0, 1) := by decide +kernel
theorem dX12_search_137 : decode cX12_search 137 = .ok (.getfield 56, 3) := by decide +kernel
theorem dX12_search_140 : decode cX12_search 140 = .ok (.putfield 56, 3) := by decide +kernel
theorem dX12_search_143 : decode cX12_search 143 = .ok (.iconst 0, 1) := by decide +kernel
theorem dX12_search_144 : decode cX12_search 144 = .ok (.istore 7, 2) := by decide +kernel
theorem dX12_search_146 : decode cX12_search 146 = .ok (.iload 7, 2) := by decide +kernel
theorem dX12_search_148 : decode cX12_search 148 = .ok (.aload_n 0, 1) := by decide +kernel
theorem dX12_search_149 : decode cX12_search 149 = .ok (.getfield 135, 3) := by decide +kernel
theorem dX12_search_152 : decode cX12_search 152 = .ok (.if_icmp .ge 27, 3) := by decide +kernel
theorem dX12_search_155 : decode cX12_search 155 = .ok (.iload_n 2, 1) := by decide +kernel
theorem dX12_search_156 : decode cX12_search 156 = .ok (.ifCond .eq 23, 3) := by decide +kernel
theorem dX12_search_159 : decode cX12_search 159 = .ok (.aload_n 0, 1) := by decide +kernel
theorem dX12_search_160 : decode cX12_search 160 = .ok (.getfield 53, 3) := by decide +kernel
theorem dX12_search_163 : decode cX12_search 163 = .ok (.iload 7, 2) := by decide +kernel
theorem dX12_search_165 : decode cX12_search 165 = .ok (.aload_n 0, 1) := by decide +kernel
theorem dX12_search_166 : decode cX12_search 166 = .ok (.getfield 24, 3) := by decide +kernel
theorem dX12_search_169 : decode cX12_search 169 = .ok (.iload 7, 2) := by decide +kernel
theorem dX12_search_171 : decode cX12_search 171 = .ok (.iaload, 1) := by decide +kernel
theorem dX12_search_172 : decode cX12_search 172 = .ok (.iastore, 1) := by decide +kernel
theorem dX12_search_173 : decode cX12_search 173 = .ok (.iinc 7 1, 3) := by decide +kernel
theorem dX12_search_176 : decode cX12_search 176 = .ok (.goto (-30), 3) := by decide +kernel
theorem dX12_search_179 : decode cX12_search 179 = .ok (.iinc 5 1, 3) := by decide +kernel
theorem dX12_search_182 : decode cX12_search 182 = .ok (.goto (-125), 3) := by decide +kernel
theorem dX12_search_185 : decode cX12_search 185 = .ok (.aload_n 0, 1) := by decide +kernel
theorem dX12_search_186 : decode cX12_search 186 = .ok (.getfield 60, 3) := by decide +kernel
theorem dX12_search_189 : decode cX12_search 189 = .ok (.aload_n 0, 1) := by decide +kernel
theorem dX12_search_190 : decode cX12_search 190 = .ok (.getfield 24, 3) := by decide +kernel
theorem dX12_search_193 : decode cX12_search 193 = .ok (.invokestatic 228, 3) := by decide +kernel
theorem dX12_search_196 : decode cX12_search 196 = .ok (.aload_n 0, 1) := by decide +kernel
theorem dX12_search_197 : decode cX12_search 197 = .ok (.getfield 63, 3) := by decide +kernel
theorem dX12_search_200 : decode cX12_search 200 = .ok (.aload_n 0, 1) := by decide +kernel
theorem dX12_search_201 : decode cX12_search 201 = .ok (.getfield 11, 3) := by decide +kernel
theorem dX12_search_204 : decode cX12_search 204 = .ok (.invokestatic 232, 3) := by decide +kernel
theorem dX12_search_207 : decode cX12_search 207 = .ok (.aload_n 0, 1) := by decide +kernel
theorem dX12_search_208 : decode cX12_search 208 = .ok (.invokevirtual 142, 3) := by decide +kernel
theorem dX12_search_211 : decode cX12_search 211 = .ok (.iload 4, 2) := by decide +kernel
theorem dX12_search_213 : decode cX12_search 213 = .ok (.ireturn, 1) := by decide +kernel
set_option maxRecDepth 20000 in
theorem ggX12_searchError_X12_isBetween : GoodIn wsX12_searchError wsX12_isBetween := goodIn_r _ [5] (by decide +kernel) (by decide +kernel)
set_option maxRecDepth 20000 in
theorem gX12_searchError_X12_isBetween : GoodIn wsX12_searchError (va_wsS RX12 128 yX12_isBetween wsX12_isBetween) := goodIn_app (goodIn_of _ (by decide +kernel)) ggX12_searchError_X12_isBetween
theorem dX12_searchError_0 : decode cX12_searchError 0 = .ok (.iload_n 1, 1) := by decide +kernel
theorem dX12_searchError_1 : decode cX12_searchError 1 = .ok (.iconst 1, 1) := by decide +kernel
theorem dX12_searchError_2 : decode cX12_searchError 2 = .ok (.iconst 3, 1) := by decide +kernel
theorem dX12_searchError_3 : decode cX12_searchError 3 = .ok (.invokestatic 128, 3) := by decide +kernel
theorem dX12_searchError_6 : decode cX12_searchError 6 = .ok (.ifCond .ne 7, 3) := by decide +kernel
theorem dX12_searchError_9 : decode cX12_searchError 9 = .ok (.iconst (-1), 1) := by decide +kernel
theorem dX12_searchError_10 : decode cX12_searchError 10 = .ok (.goto 18, 3) := by decide +kernel
theorem dX12_searchError_13 : decode cX12_searchError 13 = .ok (.aload_n 0, 1) := by decide +kernel
theorem dX12_searchError_14 : decode cX12_searchError 14 = .ok (.getfield 135, 3) := by decide +kernel
theorem dX12_searchError_17 : decode cX12_searchError 17 = .ok (.bipush 8, 2) := by decide +kernel
theorem dX12_searchError_19 : decode cX12_searchError 19 = .ok (.if_icmp .le 8, 3) := by decide +kernel
theorem dX12_searchError_22 : decode cX12_searchError 22 = .ok (.bipush (-5), 2) := by decide +kernel
theorem dX12_searchError_24 : decode cX12_searchError 24 = .ok (.goto 4, 3) := by decide +kernel
theorem dX12_searchError_27 : decode cX12_searchError 27 = .ok (.iconst 0, 1) := by decide +kernel
theorem dX12_searchError_28 : decode cX12_searchError 28 = .ok (.ireturn, 1) := by decide +kernel
set_option maxRecDepth 20000 in
theorem ggX12_findLabelling_X12_searchError : GoodIn wsX12_findLabelling wsX12_searchError := goodIn_r _ [5, 6, 7, 8, 4, 9, 69, 70, 71, 72, 73, 74, 75, 76, 77, 78, 79, 80, 81, 82, 83, 84, 85, 86, 87, 88, 89, 90, 91, 92, 93, 94, 95, 96, 97, 98, 99, 100, 101, 102, 103, 104, 105, 106, 107, 108, 109, 110, 111, 112, 113, 114, 115, 116, 117, 118, 119, 120] (by decide +kernel) (by decide +kernel)
set_option maxRecDepth 20000 in
theorem gX12_findLabelling_X12_searchError : GoodIn wsX12_findLabelling (wsV RX12 242 RX12 yX12_searchError wsX12_searchError) := goodIn_app (goodIn_of _ (by decide +kernel)) ggX12_findLabelling_X12_searchError
set_option maxRecDepth 20000 in
theorem ggX12_findLabelling_X12_search : GoodIn wsX12_findLabelling wsX12_search := goodIn_r _ [13, 14, 15, 16, 17, 6, 18, 19, 20, 21, 4, 22, 23, 24, 25, 26, 27, 28, 29, 30, 31, 32, 33, 34, 35, 36, 37, 38, 39, 40, 41, 42, 43, 44, 45, 46, 47, 48, 49, 50, 51, 52, 53, 54, 55, 56, 57, 58, 59, 60, 61, 62, 63, 64, 65, 66, 67, 68, 69, 70, 71, 72, 73, 74, 75, 76, 77, 78, 79, 80, 81, 82, 83, 84, 85, 86, 87, 88, 89, 90, 91, 92, 93, 94, 95, 96, 97, 98, 99, 100, 101, 102, 103, 104, 105, 106, 107, 108, 109, 110, 111, 112, 113, 114, 115, 116, 117, 118, 119, 120] (by decide +kernel) (by decide +kernel)
set_option maxRecDepth 20000 in
theorem gX12_findLabelling_X12_search : GoodIn wsX12_findLabelling (wsV RX12 245 RX12 yX12_search wsX12_search) := goodIn_app (goodIn_of _ (by decide +kernel)) ggX12_findLabelling_X12_search
theorem dX12_findLabelling_0 : decode cX12_findLabelling 0 = .ok (.aload_n 0, 1) := by decide +kernel
theorem dX12_findLabelling_1 : decode cX12_findLabelling 1 = .ok (.iload_n 1, 1) := by decide +kernel
theorem dX12_findLabelling_2 : decode cX12_findLabelling 2 = .ok (.invokevirtual 242, 3) := by decide +kernel
theorem dX12_findLabelling_5 : decode cX12_findLabelling 5 = .ok (.istore_n 2, 1) := by decide +kernel
theorem dX12_findLabelling_6 : decode cX12_findLabelling 6 = .ok (.iload_n 2, 1) := by decide +kernel
theorem dX12_findLabelling_7 : decode cX12_findLabelling 7 = .ok (.ifCond .eq 7, 3) := by decide +kernel
theorem dX12_findLabelling_10 : decode cX12_findLabelling 10 = .ok (.iload_n 2, 1) := by decide +kernel
theorem dX12_findLabelling_11 : decode cX12_findLabelling 11 = .ok (.goto 9, 3) := by decide +kernel
theorem dX12_findLabelling_14 : decode cX12_findLabelling 14 = .ok (.aload_n 0, 1) := by decide +kernel
theorem dX12_findLabelling_15 : decode cX12_findLabelling 15 = .ok (.iload_n 1, 1) := by decide +kernel
theorem dX12_findLabelling_16 : decode cX12_findLabelling 16 = .ok (.iconst 1, 1) := by decide +kernel
theorem dX12_findLabelling_17 : decode cX12_findLabelling 17 = .ok (.invokevirtual 245, 3) := by decide +kernel
theorem dX12_findLabelling_20 : decode cX12_findLabelling 20 = .ok (.ireturn, 1) := by decide +kernel
set_option maxRecDepth 20000 in
theorem ggX12_labellingCount_X12_searchError : GoodIn wsX12_labellingCount wsX12_searchError := goodIn_r _ [5, 6, 7, 8, 4, 9, 69, 70, 71, 72, 73, 74, 75, 76, 77, 78, 79, 80, 81, 82, 83, 84, 85, 86, 87, 88, 89, 90, 91, 92, 93, 94, 95, 96, 97, 98, 99, 100, 101, 102, 103, 104, 105, 106, 107, 108, 109, 110, 111, 112, 113, 114, 115, 116, 117, 118, 119, 120] (by decide +kernel) (by decide +kernel)
set_option maxRecDepth 20000 in
theorem gX12_labellingCount_X12_searchError : GoodIn wsX12_labellingCount (wsV RX12 242 RX12 yX12_searchError wsX12_searchError) := goodIn_app (goodIn_of _ (by decide +kernel)) ggX12_labellingCount_X12_searchError
set_option maxRecDepth 20000 in
theorem ggX12_labellingCount_X12_search : GoodIn wsX12_labellingCount wsX12_search := goodIn_r _ [13, 14, 15, 16, 17, 6, 18, 19, 20, 21, 4, 22, 23, 24, 25, 26, 27, 28, 29, 30, 31, 32, 33, 34, 35, 36, 37, 38, 39, 40, 41, 42, 43, 44, 45, 46, 47, 48, 49, 50, 51, 52, 53, 54, 55, 56, 57, 58, 59, 60, 61, 62, 63, 64, 65, 66, 67, 68, 69, 70, 71, 72, 73, 74, 75, 76, 77, 78, 79, 80, 81, 82, 83, 84, 85, 86, 87, 88, 89, 90, 91, 92, 93, 94, 95, 96, 97, 98, 99, 100, 101, 102, 103, 104, 105, 106, 107, 108, 109, 110, 111, 112, 113, 114, 115, 116, 117, 118, 119, 120] (by decide +kernel) (by decide +kernel)
set_option maxRecDepth 20000 in
theorem gX12_labellingCount_X12_search : GoodIn wsX12_labellingCount (wsV RX12 245 RX12 yX12_search wsX12_search) := goodIn_app (goodIn_of _ (by decide +kernel)) ggX12_labellingCount_X12_search
theorem dX12_labellingCount_0 : decode cX12_labellingCount 0 = .ok (.aload_n 0, 1) := by decide +kernel
theorem dX12_labellingCount_1 : decode cX12_labellingCount 1 = .ok (.iload_n 1, 1) := by decide +kernel
theorem dX12_labellingCount_2 : decode cX12_labellingCount 2 = .ok (.invokevirtual 242, 3) := by decide +kernel
theorem dX12_labellingCount_5 : decode cX12_labellingCount 5 = .ok (.istore_n 2, 1) := by decide +kernel
theorem dX12_labellingCount_6 : decode cX12_labellingCount 6 = .ok (.iload_n 2, 1) := by decide +kernel
theorem dX12_labellingCount_7 : decode cX12_labellingCount 7 = .ok (.ifCond .eq 7, 3) := by decide +kernel
theorem dX12_labellingCount_10 : decode cX12_labellingCount 10 = .ok (.iload_n 2, 1) := by decide +kernel
theorem dX12_labellingCount_11 : decode cX12_labellingCount 11 = .ok (.goto 9, 3) := by decide +kernel
theorem dX12_labellingCount_14 : decode cX12_labellingCount 14 = .ok (.aload_n 0, 1) := by decide +kernel
theorem dX12_labellingCount_15 : decode cX12_labellingCount 15 = .ok (.iload_n 1, 1) := by decide +kernel
theorem dX12_labellingCount_16 : decode cX12_labellingCount 16 = .ok (.iconst 0, 1) := by decide +kernel
theorem dX12_labellingCount_17 : decode cX12_labellingCount 17 = .ok (.invokevirtual 245, 3) := by decide +kernel
theorem dX12_labellingCount_20 : decode cX12_labellingCount 20 = .ok (.ireturn, 1) := by decide +kernel
set_option maxRecDepth 20000 in
theorem ggX12_foundLabel_X12_isBetween : GoodIn wsX12_foundLabel wsX12_isBetween := goodIn_r _ [6] (by decide +kernel) (by decide +kernel)
set_option maxRecDepth 20000 in
theorem gX12_foundLabel_X12_isBetween : GoodIn wsX12_foundLabel (va_wsS RX12 128 yX12_isBetween wsX12_isBetween) := goodIn_app (goodIn_of _ (by decide +kernel)) ggX12_foundLabel_X12_isBetween
theorem dX12_foundLabel_0 : decode cX12_foundLabel 0 = .ok (.iload_n 1, 1) := by decide +kernel
theorem dX12_foundLabel_1 : decode cX12_foundLabel 1 = .ok (.iconst 0, 1) := by decide +kernel
theorem dX12_foundLabel_2 : decode cX12_foundLabel 2 = .ok (.aload_n 0, 1) := by decide +kernel
theorem dX12_foundLabel_3 : decode cX12_foundLabel 3 = .ok (.getfield 56, 3) := by decide +kernel
theorem dX12_foundLabel_6 : decode cX12_foundLabel 6 = .ok (.iconst 1, 1) := by decide +kernel
theorem dX12_foundLabel_7 : decode cX12_foundLabel 7 = .ok (.isub, 1) := by decide +kernel
theorem dX12_foundLabel_8 : decode cX12_foundLabel 8 = .ok (.invokestatic 128, 3) := by decide +kernel
theorem dX12_foundLabel_11 : decode cX12_foundLabel 11 = .ok (.ifCond .eq 12, 3) := by decide +kernel
theorem dX12_foundLabel_14 : decode cX12_foundLabel 14 = .ok (.aload_n 0, 1) := by decide +kernel
theorem dX12_foundLabel_15 : decode cX12_foundLabel 15 = .ok (.getfield 53, 3) := by decide +kernel
theorem dX12_foundLabel_18 : decode cX12_foundLabel 18 = .ok (.iload_n 1, 1) := by decide +kernel
theorem dX12_foundLabel_19 : decode cX12_foundLabel 19 = .ok (.iaload, 1) := by decide +kernel
theorem dX12_foundLabel_20 : decode cX12_foundLabel 20 = .ok (.goto 5, 3) := by decide +kernel
theorem dX12_foundLabel_23 : decode cX12_foundLabel 23 = .ok (.bipush (-2), 2) := by decide +kernel
theorem dX12_foundLabel_25 : decode cX12_foundLabel 25 = .ok (.ireturn, 1) := by decide +kernel
set_option maxRecDepth 20000 in
theorem ggX12_applyLabelling_X12_useNaturalOrder : GoodIn wsX12_applyLabelling wsX12_useNaturalOrder := goodIn_r _ [9, 10, 11, 12, 13, 8, 14, 15, 16, 17, 18, 19, 20, 21, 22, 23, 24, 25, 26, 27, 28, 29, 30, 31, 32, 33, 34, 35, 36, 37, 38, 39, 40, 41, 42, 43, 44, 45, 46, 47, 48, 49, 50, 51, 52, 53, 54, 55, 56, 57, 58, 59, 60, 61, 62, 63, 64, 65, 66, 67] (by decide +kernel) (by decide +kernel)
set_option maxRecDepth 20000 in
theorem gX12_applyLabelling_X12_useNaturalOrder : GoodIn wsX12_applyLabelling (wsV RX12 236 RX12 yX12_useNaturalOrder wsX12_useNaturalOrder) := goodIn_app (goodIn_of _ (by decide +kernel)) ggX12_applyLabelling_X12_useNaturalOrder
theorem dX12_applyLabelling_0 : decode cX12_applyLabelling 0 = .ok (.aload_n 0, 1) := by decide +kernel
theorem dX12_applyLabelling_1 : decode cX12_applyLabelling 1 = .ok (.getfield 56, 3) := by decide +kernel
theorem dX12_applyLabelling_4 : decode cX12_applyLabelling 4 = .ok (.aload_n 0, 1) := by decide +kernel
theorem dX12_applyLabelling_5 : decode cX12_applyLabelling 5 = .ok (.getfield 135, 3) := by decide +kernel
theorem dX12_applyLabelling_8 : decode cX12_applyLabelling 8 = .ok (.if_icmp .eq 6, 3) := by decide +kernel
theorem dX12_applyLabelling_11 : decode cX12_applyLabelling 11 = .ok (.bipush (-2), 2) := by decide +kernel
theorem dX12_applyLabelling_13 : decode cX12_applyLabelling 13 = .ok (.ireturn, 1) := by decide +kernel
theorem dX12_applyLabelling_14 : decode cX12_applyLabelling 14 = .ok (.iconst 0, 1) := by decide +kernel
theorem dX12_applyLabelling_15 : decode cX12_applyLabelling 15 = .ok (.istore_n 1, 1) := by decide +kernel
theorem dX12_applyLabelling_16 : decode cX12_applyLabelling 16 = .ok (.iconst 0, 1) := by decide +kernel
theorem dX12_applyLabelling_17 : decode cX12_applyLabelling 17 = .ok (.istore_n 2, 1) := by decide +kernel
theorem dX12_applyLabelling_18 : decode cX12_applyLabelling 18 = .ok (.iload_n 2, 1) := by decide +kernel
theorem dX12_applyLabelling_19 : decode cX12_applyLabelling 19 = .ok (.aload_n 0, 1) := by decide +kernel
theorem dX12_applyLabelling_20 : decode cX12_applyLabelling 20 = .ok (.getfield 135, 3) := by decide +kernel
theorem dX12_applyLabelling_23 : decode cX12_applyLabelling 23 = .ok (.if_icmp .ge 44, 3) := by decide +kernel
theorem dX12_applyLabelling_26 : decode cX12_applyLabelling 26 = .ok (.iload_n 1, 1) := by decide +kernel
theorem dX12_applyLabelling_27 : decode cX12_applyLabelling 27 = .ok (.aload_n 0, 1) := by decide +kernel
theorem dX12_applyLabelling_28 : decode cX12_applyLabelling 28 = .ok (.getfield 24, 3) := by decide +kernel
theorem dX12_applyLabelling_31 : decode cX12_applyLabelling 31 = .ok (.iload_n 2, 1) := by decide +kernel
theorem dX12_applyLabelling_32 : decode cX12_applyLabelling 32 = .ok (.iaload, 1) := by decide +kernel
theorem dX12_applyLabelling_33 : decode cX12_applyLabelling 33 = .ok (.aload_n 0, 1) := by decide +kernel
theorem dX12_applyLabelling_34 : decode cX12_applyLabelling 34 = .ok (.getfield 53, 3) := by decide +kernel
theorem dX12_applyLabelling_37 : decode cX12_applyLabelling 37 = .ok (.iload_n 2, 1) := by decide +kernel
theorem dX12_applyLabelling_38 : decode cX12_applyLabelling 38 = .ok (.iaload, 1) := by decide +kernel
theorem dX12_applyLabelling_39 : decode cX12_applyLabelling 39 = .ok (.if_icmp .eq 7, 3) := by decide +kernel
theorem dX12_applyLabelling_42 : decode cX12_applyLabelling 42 = .ok (.iconst 1, 1) := by decide +kernel
theorem dX12_applyLabelling_43 : decode cX12_applyLabelling 43 = .ok (.goto 4, 3) := by decide +kernel
theorem dX12_applyLabelling_46 : decode cX12_applyLabelling 46 = .ok (.iconst 0, 1) := by decide +kernel
theorem dX12_applyLabelling_47 : decode cX12_applyLabelling 47 = .ok (.iadd, 1) := by decide +kernel
theorem dX12_applyLabelling_48 : decode cX12_applyLabelling 48 = .ok (.istore_n 1, 1) := by decide +kernel
theorem dX12_applyLabelling_49 : decode cX12_applyLabelling 49 = .ok (.aload_n 0, 1) := by decide +kernel
theorem dX12_applyLabelling_50 : decode cX12_applyLabelling 50 = .ok (.getfield 24, 3) := by decide +kernel
theorem dX12_applyLabelling_53 : decode cX12_applyLabelling 53 = .ok (.iload_n 2, 1) := by decide +kernel
theorem dX12_applyLabelling_54 : decode cX12_applyLabelling 54 = .ok (.aload_n 0, 1) := by decide +kernel
theorem dX12_applyLabelling_55 : decode cX12_applyLabelling 55 = .ok (.getfield 53, 3) := by decide +kernel
theorem dX12_applyLabelling_58 : decode cX12_applyLabelling 58 = .ok (.iload_n 2, 1) := by decide +kernel
theorem dX12_applyLabelling_59 : decode cX12_applyLabelling 59 = .ok (.iaload, 1) := by decide +kernel
theorem dX12_applyLabelling_60 : decode cX12_applyLabelling 60 = .ok (.iastore, 1) := by decide +kernel
theorem dX12_applyLabelling_61 : decode cX12_applyLabelling 61 = .ok (.iinc 2 1, 3) := by decide +kernel
theorem dX12_applyLabelling_64 : decode cX12_applyLabelling 64 = .ok (.goto (-46), 3) := by decide +kernel
theorem dX12_applyLabelling_67 : decode cX12_applyLabelling 67 = .ok (.aload_n 0, 1) := by decide +kernel
theorem dX12_applyLabelling_68 : decode cX12_applyLabelling 68 = .ok (.invokevirtual 236, 3) := by decide +kernel
theorem dX12_applyLabelling_71 : decode cX12_applyLabelling 71 = .ok (.pop, 1) := by decide +kernel
theorem dX12_applyLabelling_72 : decode cX12_applyLabelling 72 = .ok (.iload_n 1, 1) := by decide +kernel
theorem dX12_applyLabelling_73 : decode cX12_applyLabelling 73 = .ok (.ireturn, 1) := by decide +kernel
set_option maxRecDepth 20000 in
theorem ggX12_feed_X12_isBetween : GoodIn wsX12_feed wsX12_isBetween := goodIn_r _ [6] (by decide +kernel) (by decide +kernel)
set_option maxRecDepth 20000 in
theorem gX12_feed_X12_isBetween : GoodIn wsX12_feed (va_wsS RX12 128 yX12_isBetween wsX12_isBetween) := goodIn_app (goodIn_of _ (by decide +kernel)) ggX12_feed_X12_isBetween
theorem dX12_feed_0 : decode cX12_feed 0 = .ok (.iload_n 1, 1) := by decide +kernel
theorem dX12_feed_1 : decode cX12_feed 1 = .ok (.iconst 1, 1) := by decide +kernel
theorem dX12_feed_2 : decode cX12_feed 2 = .ok (.bipush 127, 2) := by decide +kernel
theorem dX12_feed_4 : decode cX12_feed 4 = .ok (.invokestatic 128, 3) := by decide +kernel
theorem dX12_feed_7 : decode cX12_feed 7 = .ok (.ifCond .ne 5, 3) := by decide +kernel
theorem dX12_feed_10 : decode cX12_feed 10 = .ok (.iconst (-1), 1) := by decide +kernel
theorem dX12_feed_11 : decode cX12_feed 11 = .ok (.ireturn, 1) := by decide +kernel
theorem dX12_feed_12 : decode cX12_feed 12 = .ok (.aload_n 0, 1) := by decide +kernel
theorem dX12_feed_13 : decode cX12_feed 13 = .ok (.getfield 249, 3) := by decide +kernel
theorem dX12_feed_16 : decode cX12_feed 16 = .ok (.bipush 20, 2) := by decide +kernel
theorem dX12_feed_18 : decode cX12_feed 18 = .ok (.if_icmp .ne 6, 3) := by decide +kernel
theorem dX12_feed_21 : decode cX12_feed 21 = .ok (.bipush (-3), 2) := by decide +kernel
theorem dX12_feed_23 : decode cX12_feed 23 = .ok (.ireturn, 1) := by decide +kernel
theorem dX12_feed_24 : decode cX12_feed 24 = .ok (.aload_n 0, 1) := by decide +kernel
theorem dX12_feed_25 : decode cX12_feed 25 = .ok (.getfield 66, 3) := by decide +kernel
theorem dX12_feed_28 : decode cX12_feed 28 = .ok (.aload_n 0, 1) := by decide +kernel
theorem dX12_feed_29 : decode cX12_feed 29 = .ok (.getfield 249, 3) := by decide +kernel
theorem dX12_feed_32 : decode cX12_feed 32 = .ok (.iload_n 1, 1) := by decide +kernel
theorem dX12_feed_33 : decode cX12_feed 33 = .ok (.iastore, 1) := by decide +kernel
theorem dX12_feed_34 : decode cX12_feed 34 = .ok (.aload_n 0, 1) := by decide +kernel
theorem dX12_feed_35 : decode cX12_feed 35 = .ok (.dup, 1) := by decide +kernel
theorem dX12_feed_36 : decode cX12_feed 36 = .ok (.getfield 249, 3) := by decide +kernel
theorem dX12_feed_39 : decode cX12_feed 39 = .ok (.iconst 1, 1) := by decide +kernel
theorem dX12_feed_40 : decode cX12_feed 40 = .ok (.iadd, 1) := by decide +kernel
theorem dX12_feed_41 : decode cX12_feed 41 = .ok (.putfield 249, 3) := by decide +kernel
theorem dX12_feed_44 : decode cX12_feed 44 = .ok (.aload_n 0, 1) := by decide +kernel
theorem dX12_feed_45 : decode cX12_feed 45 = .ok (.getfield 249, 3) := by decide +kernel
theorem dX12_feed_48 : decode cX12_feed 48 = .ok (.ireturn, 1) := by decide +kernel
set_option maxRecDepth 20000 in
theorem ggX12_isLetterAt_X12_isBetween : GoodIn wsX12_isLetterAt wsX12_isBetween := goodIn_r _ [6] (by decide +kernel) (by decide +kernel)
set_option maxRecDepth 20000 in
theorem gX12_isLetterAt_X12_isBetween : GoodIn wsX12_isLetterAt (va_wsS RX12 128 yX12_isBetween wsX12_isBetween) := goodIn_app (goodIn_of _ (by decide +kernel)) ggX12_isLetterAt_X12_isBetween
theorem dX12_isLetterAt_0 : decode cX12_isLetterAt 0 = .ok (.iload_n 1, 1) := by decide +kernel
theorem dX12_isLetterAt_1 : decode cX12_isLetterAt 1 = .ok (.aload_n 0, 1) := by decide +kernel
theorem dX12_isLetterAt_2 : decode cX12_isLetterAt 2 = .ok (.getfield 249, 3) := by decide +kernel
theorem dX12_isLetterAt_5 : decode cX12_isLetterAt 5 = .ok (.if_icmp .ge 23, 3) := by decide +kernel
theorem dX12_isLetterAt_8 : decode cX12_isLetterAt 8 = .ok (.aload_n 0, 1) := by decide +kernel
theorem dX12_isLetterAt_9 : decode cX12_isLetterAt 9 = .ok (.getfield 66, 3) := by decide +kernel
theorem dX12_isLetterAt_12 : decode cX12_isLetterAt 12 = .ok (.iload_n 1, 1) := by decide +kernel
theorem dX12_isLetterAt_13 : decode cX12_isLetterAt 13 = .ok (.iaload, 1) := by decide +kernel
theorem dX12_isLetterAt_14 : decode cX12_isLetterAt 14 = .ok (.bipush 97, 2) := by decide +kernel
theorem dX12_isLetterAt_16 : decode cX12_isLetterAt 16 = .ok (.bipush 99, 2) := by decide +kernel
theorem dX12_isLetterAt_18 : decode cX12_isLetterAt 18 = .ok (.invokestatic 128, 3) := by decide +kernel
theorem dX12_isLetterAt_21 : decode cX12_isLetterAt 21 = .ok (.ifCond .eq 7, 3) := by decide +kernel
theorem dX12_isLetterAt_24 : decode cX12_isLetterAt 24 = .ok (.iconst 1, 1) := by decide +kernel
theorem dX12_isLetterAt_25 : decode cX12_isLetterAt 25 = .ok (.goto 4, 3) := by decide +kernel
theorem dX12_isLetterAt_28 : decode cX12_isLetterAt 28 = .ok (.iconst 0, 1) := by decide +kernel
theorem dX12_isLetterAt_29 : decode cX12_isLetterAt 29 = .ok (.ireturn, 1) := by decide +kernel
set_option maxRecDepth 20000 in
theorem ggX12_lettersFrom_X12_isLetterAt : GoodIn wsX12_lettersFrom wsX12_isLetterAt := goodIn_r _ [5, 6, 7, 8, 9, 4, 10, 11, 12, 13, 14, 15, 16, 17, 18, 19, 20, 21, 22, 23, 24, 25, 26, 27, 28, 29, 30, 31, 32, 33, 34, 35, 36, 37, 38, 39, 40, 41, 42, 43, 44, 45, 46, 47, 48, 49, 50, 51, 52, 53, 54, 55, 56, 57, 58, 59, 60, 61, 62] (by decide +kernel) (by decide +kernel)
set_option maxRecDepth 20000 in
theorem gX12_lettersFrom_X12_isLetterAt : GoodIn wsX12_lettersFrom (wsV RX12 252 RX12 yX12_isLetterAt wsX12_isLetterAt) := goodIn_app (goodIn_of _ (by decide +kernel)) ggX12_lettersFrom_X12_isLetterAt
theorem dX12_lettersFrom_0 : decode cX12_lettersFrom 0 = .ok (.iconst 0, 1) := by decide +kernel
theorem dX12_lettersFrom_1 : decode cX12_lettersFrom 1 = .ok (.istore_n 3, 1) := by decide +kernel
theorem dX12_lettersFrom_2 : decode cX12_lettersFrom 2 = .ok (.iload_n 3, 1) := by decide +kernel
theorem dX12_lettersFrom_3 : decode cX12_lettersFrom 3 = .ok (.iload_n 2, 1) := by decide +kernel
theorem dX12_lettersFrom_4 : decode cX12_lettersFrom 4 = .ok (.if_icmp .ge 19, 3) := by decide +kernel
theorem dX12_lettersFrom_7 : decode cX12_lettersFrom 7 = .ok (.aload_n 0, 1) := by decide +kernel
theorem dX12_lettersFrom_8 : decode cX12_lettersFrom 8 = .ok (.iload_n 1, 1) := by decide +kernel
theorem dX12_lettersFrom_9 : decode cX12_lettersFrom 9 = .ok (.iload_n 3, 1) := by decide +kernel
theorem dX12_lettersFrom_10 : decode cX12_lettersFrom 10 = .ok (.iadd, 1) := by decide +kernel
theorem dX12_lettersFrom_11 : decode cX12_lettersFrom 11 = .ok (.invokevirtual 252, 3) := by decide +kernel
theorem dX12_lettersFrom_14 : decode cX12_lettersFrom 14 = .ok (.ifCond .eq 9, 3) := by decide +kernel
theorem dX12_lettersFrom_17 : decode cX12_lettersFrom 17 = .ok (.iinc 3 1, 3) := by decide +kernel
theorem dX12_lettersFrom_20 : decode cX12_lettersFrom 20 = .ok (.goto (-18), 3) := by decide +kernel
theorem dX12_lettersFrom_23 : decode cX12_lettersFrom 23 = .ok (.iload_n 3, 1) := by decide +kernel
theorem dX12_lettersFrom_24 : decode cX12_lettersFrom 24 = .ok (.ireturn, 1) := by decide +kernel
set_option maxRecDepth 20000 in
theorem ggX12_addRule_X12_lettersIn : GoodIn wsX12_addRule wsX12_lettersIn := goodIn_r _ [10, 2, 11, 12, 13, 9, 14, 15, 16, 17, 18, 3, 19, 20, 21, 22, 23, 24, 25, 26, 27, 28, 29, 30, 31, 32, 33, 34, 35, 36, 37, 38, 39, 40, 41, 42, 43, 44, 45, 46, 47, 48, 49, 50, 51, 52, 53, 54, 55, 56, 57, 58, 59, 60, 61, 62, 63, 64, 65, 66, 67, 68, 69, 70, 71, 72, 73] (by decide +kernel) (by decide +kernel)
set_option maxRecDepth 20000 in
theorem gX12_addRule_X12_lettersIn : GoodIn wsX12_addRule (wsV RX12 258 RX12 yX12_lettersIn wsX12_lettersIn) := goodIn_app (goodIn_of _ (by decide +kernel)) ggX12_addRule_X12_lettersIn
theorem dX12_addRule_0 : decode cX12_addRule 0 = .ok (.aload_n 0, 1) := by decide +kernel
theorem dX12_addRule_1 : decode cX12_addRule 1 = .ok (.getfield 255, 3) := by decide +kernel
theorem dX12_addRule_4 : decode cX12_addRule 4 = .ok (.bipush 6, 2) := by decide +kernel
theorem dX12_addRule_6 : decode cX12_addRule 6 = .ok (.if_icmp .ne 6, 3) := by decide +kernel
theorem dX12_addRule_9 : decode cX12_addRule 9 = .ok (.bipush (-3), 2) := by decide +kernel
theorem dX12_addRule_11 : decode cX12_addRule 11 = .ok (.ireturn, 1) := by decide +kernel
theorem dX12_addRule_12 : decode cX12_addRule 12 = .ok (.aload_n 0, 1) := by decide +kernel
theorem dX12_addRule_13 : decode cX12_addRule 13 = .ok (.getfield 249, 3) := by decide +kernel
theorem dX12_addRule_16 : decode cX12_addRule 16 = .ok (.istore_n 1, 1) := by decide +kernel
theorem dX12_addRule_17 : decode cX12_addRule 17 = .ok (.aload_n 0, 1) := by decide +kernel
theorem dX12_addRule_18 : decode cX12_addRule 18 = .ok (.iconst 0, 1) := by decide +kernel
theorem dX12_addRule_19 : decode cX12_addRule 19 = .ok (.putfield 249, 3) := by decide +kernel
theorem dX12_addRule_22 : decode cX12_addRule 22 = .ok (.aload_n 0, 1) := by decide +kernel
theorem dX12_addRule_23 : decode cX12_addRule 23 = .ok (.iload_n 1, 1) := by decide +kernel
theorem dX12_addRule_24 : decode cX12_addRule 24 = .ok (.iconst 0, 1) := by decide +kernel
theorem dX12_addRule_25 : decode cX12_addRule 25 = .ok (.iconst 4, 1) := by decide +kernel
theorem dX12_addRule_26 : decode cX12_addRule 26 = .ok (.invokevirtual 258, 3) := by decide +kernel
theorem dX12_addRule_29 : decode cX12_addRule 29 = .ok (.istore_n 2, 1) := by decide +kernel
theorem dX12_addRule_30 : decode cX12_addRule 30 = .ok (.iload_n 2, 1) := by decide +kernel
theorem dX12_addRule_31 : decode cX12_addRule 31 = .ok (.ifCond .eq 19, 3) := by decide +kernel
theorem dX12_addRule_34 : decode cX12_addRule 34 = .ok (.iload_n 2, 1) := by decide +kernel
theorem dX12_addRule_35 : decode cX12_addRule 35 = .ok (.iload_n 1, 1) := by decide +kernel
theorem dX12_addRule_36 : decode cX12_addRule 36 = .ok (.if_icmp .ge 14, 3) := by decide +kernel
theorem dX12_addRule_39 : decode cX12_addRule 39 = .ok (.aload_n 0, 1) := by decide +kernel
theorem dX12_addRule_40 : decode cX12_addRule 40 = .ok (.getfield 66, 3) := by decide +kernel
theorem dX12_addRule_43 : decode cX12_addRule 43 = .ok (.iload_n 2, 1) := by decide +kernel
theorem dX12_addRule_44 : decode cX12_addRule 44 = .ok (.iaload, 1) := by decide +kernel
theorem dX12_addRule_45 : decode cX12_addRule 45 = .ok (.bipush 62, 2) := by decide +kernel
theorem dX12_addRule_47 : decode cX12_addRule 47 = .ok (.if_icmp .eq 8, 3) := by decide +kernel
theorem dX12_addRule_50 : decode cX12_addRule 50 = .ok (.bipush (-100), 2) := by decide +kernel
theorem dX12_addRule_52 : decode cX12_addRule 52 = .ok (.iload_n 2, 1) := by decide +kernel
theorem dX12_addRule_53 : decode cX12_addRule 53 = .ok (.isub, 1) := by decide +kernel
theorem dX12_addRule_54 : decode cX12_addRule 54 = .ok (.ireturn, 1) := by decide +kernel
theorem dX12_addRule_55 : decode cX12_addRule 55 = .ok (.aload_n 0, 1) := by decide +kernel
theorem dX12_addRule_56 : decode cX12_addRule 56 = .ok (.iload_n 1, 1) := by decide +kernel
theorem dX12_addRule_57 : decode cX12_addRule 57 = .ok (.iload_n 2, 1) := by decide +kernel
theorem dX12_addRule_58 : decode cX12_addRule 58 = .ok (.iconst 1, 1) := by decide +kernel
theorem dX12_addRule_59 : decode cX12_addRule 59 = .ok (.iadd, 1) := by decide +kernel
theorem dX12_addRule_60 : decode cX12_addRule 60 = .ok (.iconst 4, 1) := by decide +kernel
theorem dX12_addRule_61 : decode cX12_addRule 61 = .ok (.invokevirtual 258, 3) := by decide +kernel
theorem dX12_addRule_64 : decode cX12_addRule 64 = .ok (.istore_n 3, 1) := by decide +kernel
theorem dX12_addRule_65 : decode cX12_addRule 65 = .ok (.iload_n 2, 1) := by decide +kernel
theorem dX12_addRule_66 : decode cX12_addRule 66 = .ok (.iconst 1, 1) := by decide +kernel
theorem dX12_addRule_67 : decode cX12_addRule 67 = .ok (.iadd, 1) := by decide +kernel
theorem dX12_addRule_68 : decode cX12_addRule 68 = .ok (.iload_n 3, 1) := by decide +kernel
theorem dX12_addRule_69 : decode cX12_addRule 69 = .ok (.iadd, 1) := by decide +kernel
theorem dX12_addRule_70 : decode cX12_addRule 70 = .ok (.iload_n 1, 1) := by decide +kernel
theorem dX12_addRule_71 : decode cX12_addRule 71 = .ok (.if_icmp .ge 12, 3) := by decide +kernel
theorem dX12_addRule_74 : decode cX12_addRule 74 = .ok (.bipush (-100), 2) := by decide +kernel
theorem dX12_addRule_76 : decode cX12_addRule 76 = .ok (.iload_n 2, 1) := by decide +kernel
theorem dX12_addRule_77 : decode cX12_addRule 77 = .ok (.isub, 1) := by decide +kernel
theorem dX12_addRule_78 : decode cX12_addRule 78 = .ok (.iconst 1, 1) := by decide +kernel
theorem dX12_addRule_79 : decode cX12_addRule 79 = .ok (.isub, 1) := by decide +kernel
theorem dX12_addRule_80 : decode cX12_addRule 80 = .ok (.iload_n 3, 1) := by decide +kernel
theorem dX12_addRule_81 : decode cX12_addRule 81 = .ok (.isub, 1) := by decide +kernel
theorem dX12_addRule_82 : decode cX12_addRule 82 = .ok (.ireturn, 1) := by decide +kernel
theorem dX12_addRule_83 : decode cX12_addRule 83 = .ok (.iconst 0, 1) := by decide +kernel
theorem dX12_addRule_84 : decode cX12_addRule 84 = .ok (.istore 4, 2) := by decide +kernel
theorem dX12_addRule_86 : decode cX12_addRule 86 = .ok (.iload 4, 2) := by decide +kernel
theorem dX12_addRule_88 : decode cX12_addRule 88 = .ok (.iload_n 2, 1) := by decide +kernel
theorem dX12_addRule_89 : decode cX12_addRule 89 = .ok (.if_icmp .ge 30, 3) := by decide +kernel
theorem dX12_addRule_92 : decode cX12_addRule 92 = .ok (.aload_n 0, 1) := by decide +kernel
theorem dX12_addRule_93 : decode cX12_addRule 93 = .ok (.getfield 69, 3) := by decide +kernel
theorem dX12_addRule_96 : decode cX12_addRule 96 = .ok (.iconst 2, 1) := by decide +kernel
theorem dX12_addRule_97 : decode cX12_addRule 97 = .ok (.aload_n 0, 1) := by decide +kernel
theorem dX12_addRule_98 : decode cX12_addRule 98 = .ok (.getfield 255, 3) := by decide +kernel
theorem dX12_addRule_101 : decode cX12_addRule 101 = .ok (.imul, 1) := by decide +kernel
theorem dX12_addRule_102 : decode cX12_addRule 102 = .ok (.aaload, 1) := by decide +kernel
theorem dX12_addRule_103 : decode cX12_addRule 103 = .ok (.iload 4, 2) := by decide +kernel
theorem dX12_addRule_105 : decode cX12_addRule 105 = .ok (.aload_n 0, 1) := by decide +kernel
theorem dX12_addRule_106 : decode cX12_addRule 106 = .ok (.getfield 66, 3) := by decide +kernel
theorem dX12_addRule_109 : decode cX12_addRule 109 = .ok (.iload 4, 2) := by decide +kernel
theorem dX12_addRule_111 : decode cX12_addRule 111 = .ok (.iaload, 1) := by decide +kernel
theorem dX12_addRule_112 : decode cX12_addRule 112 = .ok (.iastore, 1) := by decide +kernel
theorem dX12_addRule_113 : decode cX12_addRule 113 = .ok (.iinc 4 1, 3) := by decide +kernel
theorem dX12_addRule_116 : decode cX12_addRule 116 = .ok (.goto (-30), 3) := by decide +kernel
theorem dX12_addRule_119 : decode cX12_addRule 119 = .ok (.iconst 0, 1) := by decide +kernel
theorem dX12_addRule_120 : decode cX12_addRule 120 = .ok (.istore 4, 2) := by decide +kernel
theorem dX12_addRule_122 : decode cX12_addRule 122 = .ok (.iload 4, 2) := by decide +kernel
theorem dX12_addRule_124 : decode cX12_addRule 124 = .ok (.iload_n 3, 1) := by decide +kernel
theorem dX12_addRule_125 : decode cX12_addRule 125 = .ok (.if_icmp .ge 36, 3) := by decide +kernel
theorem dX12_addRule_128 : decode cX12_addRule 128 = .ok (.aload_n 0, 1) := by decide +kernel
theorem dX12_addRule_129 : decode cX12_addRule 129 = .ok (.getfield 69, 3) := by decide +kernel
theorem dX12_addRule_132 : decode cX12_addRule 132 = .ok (.iconst 2, 1) := by decide +kernel
theorem dX12_addRule_133 : decode cX12_addRule 133 = .ok (.aload_n 0, 1) := by decide +kernel
theorem dX12_addRule_134 : decode cX12_addRule 134 = .ok (.getfield 255, 3) := by decide +kernel
theorem dX12_addRule_137 : decode cX12_addRule 137 = .ok (.imul, 1) := by decide +kernel
theorem dX12_addRule_138 : decode cX12_addRule 138 = .ok (.iconst 1, 1) := by decide +kernel
theorem dX12_addRule_139 : decode cX12_addRule 139 = .ok (.iadd, 1) := by decide +kernel
theorem dX12_addRule_140 : decode cX12_addRule 140 = .ok (.aaload, 1) := by decide +kernel
theorem dX12_addRule_141 : decode cX12_addRule 141 = .ok (.iload 4, 2) := by decide +kernel
theorem dX12_addRule_143 : decode cX12_addRule 143 = .ok (.aload_n 0, 1) := by decide +kernel
theorem dX12_addRule_144 : decode cX12_addRule 144 = .ok (.getfield 66, 3) := by decide +kernel
theorem dX12_addRule_147 : decode cX12_addRule 147 = .ok (.iload_n 2, 1) := by decide +kernel
theorem dX12_addRule_148 : decode cX12_addRule 148 = .ok (.iconst 1, 1) := by decide +kernel
theorem dX12_addRule_149 : decode cX12_addRule 149 = .ok (.iadd, 1) := by decide +kernel
theorem dX12_addRule_150 : decode cX12_addRule 150 = .ok (.iload 4, 2) := by decide +kernel
theorem dX12_addRule_152 : decode cX12_addRule 152 = .ok (.iadd, 1) := by decide +kernel
theorem dX12_addRule_153 : decode cX12_addRule 153 = .ok (.iaload, 1) := by decide +kernel
theorem dX12_addRule_154 : decode cX12_addRule 154 = .ok (.iastore, 1) := by decide +kernel
theorem dX12_addRule_155 : decode cX12_addRule 155 = .ok (.iinc 4 1, 3) := by decide +kernel
theorem dX12_addRule_158 : decode cX12_addRule 158 = .ok (.goto (-36), 3) := by decide +kernel
theorem dX12_addRule_161 : decode cX12_addRule 161 = .ok (.aload_n 0, 1) := by decide +kernel
theorem dX12_addRule_162 : decode cX12_addRule 162 = .ok (.getfield 72, 3) := by decide +kernel
theorem dX12_addRule_165 : decode cX12_addRule 165 = .ok (.iconst 2, 1) := by decide +kernel
theorem dX12_addRule_166 : decode cX12_addRule 166 = .ok (.aload_n 0, 1) := by decide +kernel
theorem dX12_addRule_167 : decode cX12_addRule 167 = .ok (.getfield 255, 3) := by decide +kernel
theorem dX12_addRule_170 : decode cX12_addRule 170 = .ok (.imul, 1) := by decide +kernel
theorem dX12_addRule_171 : decode cX12_addRule 171 = .ok (.iload_n 2, 1) := by decide +kernel
theorem dX12_addRule_172 : decode cX12_addRule 172 = .ok (.iastore, 1) := by decide +kernel
theorem dX12_addRule_173 : decode cX12_addRule 173 = .ok (.aload_n 0, 1) := by decide +kernel
theorem dX12_addRule_174 : decode cX12_addRule 174 = .ok (.getfield 72, 3) := by decide +kernel
theorem dX12_addRule_177 : decode cX12_addRule 177 = .ok (.iconst 2, 1) := by decide +kernel
theorem dX12_addRule_178 : decode cX12_addRule 178 = .ok (.aload_n 0, 1) := by decide +kernel
theorem dX12_addRule_179 : decode cX12_addRule 179 = .ok (.getfield 255, 3) := by decide +kernel
theorem dX12_addRule_182 : decode cX12_addRule 182 = .ok (.imul, 1) := by decide +kernel
theorem dX12_addRule_183 : decode cX12_addRule 183 = .ok (.iconst 1, 1) := by decide +kernel
theorem dX12_addRule_184 : decode cX12_addRule 184 = .ok (.iadd, 1) := by decide +kernel
theorem dX12_addRule_185 : decode cX12_addRule 185 = .ok (.iload_n 3, 1) := by decide +kernel
theorem dX12_addRule_186 : decode cX12_addRule 186 = .ok (.iastore, 1) := by decide +kernel
theorem dX12_addRule_187 : decode cX12_addRule 187 = .ok (.aload_n 0, 1) := by decide +kernel
theorem dX12_addRule_188 : decode cX12_addRule 188 = .ok (.dup, 1) := by decide +kernel
theorem dX12_addRule_189 : decode cX12_addRule 189 = .ok (.getfield 255, 3) := by decide +kernel
theorem dX12_addRule_192 : decode cX12_addRule 192 = .ok (.iconst 1, 1) := by decide +kernel
theorem dX12_addRule_193 : decode cX12_addRule 193 = .ok (.iadd, 1) := by decide +kernel
theorem dX12_addRule_194 : decode cX12_addRule 194 = .ok (.putfield 255, 3) := by decide +kernel
theorem dX12_addRule_197 : decode cX12_addRule 197 = .ok (.aload_n 0, 1) := by decide +kernel
theorem dX12_addRule_198 : decode cX12_addRule 198 = .ok (.getfield 255, 3) := by decide +kernel
theorem dX12_addRule_201 : decode cX12_addRule 201 = .ok (.iconst 1, 1) := by decide +kernel
theorem dX12_addRule_202 : decode cX12_addRule 202 = .ok (.isub, 1) := by decide +kernel
theorem dX12_addRule_203 : decode cX12_addRule 203 = .ok (.ireturn, 1) := by decide +kernel
set_option maxRecDepth 20000 in
theorem ggX12_lettersIn_X12_lettersFrom : GoodIn wsX12_lettersIn wsX12_lettersFrom := goodIn_r _ [6, 7, 8, 9, 5, 10, 1, 11, 12, 13, 14, 15, 16, 17, 18, 19, 20, 21, 22, 23, 24, 25, 26, 27, 28, 29, 30, 31, 32, 33, 34, 35, 36, 37, 38, 39, 40, 41, 42, 43, 44, 45, 46, 47, 48, 49, 50, 51, 52, 53, 54, 55, 56, 57, 58, 59, 60, 61, 62, 63, 64, 65, 66] (by decide +kernel) (by decide +kernel)
set_option maxRecDepth 20000 in
theorem gX12_lettersIn_X12_lettersFrom : GoodIn wsX12_lettersIn (wsV RX12 262 RX12 yX12_lettersFrom wsX12_lettersFrom) := goodIn_app (goodIn_of _ (by decide +kernel)) ggX12_lettersIn_X12_lettersFrom
theorem dX12_lettersIn_0 : decode cX12_lettersIn 0 = .ok (.aload_n 0, 1) := by decide +kernel
theorem dX12_lettersIn_1 : decode cX12_lettersIn 1 = .ok (.iload_n 1, 1) := by decide +kernel
theorem dX12_lettersIn_2 : decode cX12_lettersIn 2 = .ok (.putfield 249, 3) := by decide +kernel
theorem dX12_lettersIn_5 : decode cX12_lettersIn 5 = .ok (.aload_n 0, 1) := by decide +kernel
theorem dX12_lettersIn_6 : decode cX12_lettersIn 6 = .ok (.iload_n 2, 1) := by decide +kernel
theorem dX12_lettersIn_7 : decode cX12_lettersIn 7 = .ok (.iload_n 3, 1) := by decide +kernel
theorem dX12_lettersIn_8 : decode cX12_lettersIn 8 = .ok (.invokevirtual 262, 3) := by decide +kernel
theorem dX12_lettersIn_11 : decode cX12_lettersIn 11 = .ok (.istore 4, 2) := by decide +kernel
theorem dX12_lettersIn_13 : decode cX12_lettersIn 13 = .ok (.aload_n 0, 1) := by decide +kernel
theorem dX12_lettersIn_14 : decode cX12_lettersIn 14 = .ok (.iconst 0, 1) := by decide +kernel
theorem dX12_lettersIn_15 : decode cX12_lettersIn 15 = .ok (.putfield 249, 3) := by decide +kernel
theorem dX12_lettersIn_18 : decode cX12_lettersIn 18 = .ok (.iload 4, 2) := by decide +kernel
theorem dX12_lettersIn_20 : decode cX12_lettersIn 20 = .ok (.ireturn, 1) := by decide +kernel
theorem dX12_clearRules_0 : decode cX12_clearRules 0 = .ok (.aload_n 0, 1) := by decide +kernel
theorem dX12_clearRules_1 : decode cX12_clearRules 1 = .ok (.getfield 255, 3) := by decide +kernel
theorem dX12_clearRules_4 : decode cX12_clearRules 4 = .ok (.istore_n 1, 1) := by decide +kernel
theorem dX12_clearRules_5 : decode cX12_clearRules 5 = .ok (.aload_n 0, 1) := by decide +kernel
theorem dX12_clearRules_6 : decode cX12_clearRules 6 = .ok (.iconst 0, 1) := by decide +kernel
theorem dX12_clearRules_7 : decode cX12_clearRules 7 = .ok (.putfield 255, 3) := by decide +kernel
theorem dX12_clearRules_10 : decode cX12_clearRules 10 = .ok (.iload_n 1, 1) := by decide +kernel
theorem dX12_clearRules_11 : decode cX12_clearRules 11 = .ok (.ireturn, 1) := by decide +kernel
theorem dX12_occurs_0 : decode cX12_occurs 0 = .ok (.iconst 0, 1) := by decide +kernel
theorem dX12_occurs_1 : decode cX12_occurs 1 = .ok (.istore 4, 2) := by decide +kernel
theorem dX12_occurs_3 : decode cX12_occurs 3 = .ok (.iload 4, 2) := by decide +kernel
theorem dX12_occurs_5 : decode cX12_occurs 5 = .ok (.aload_n 0, 1) := by decide +kernel
theorem dX12_occurs_6 : decode cX12_occurs 6 = .ok (.getfield 72, 3) := by decide +kernel
theorem dX12_occurs_9 : decode cX12_occurs 9 = .ok (.iconst 2, 1) := by decide +kernel
theorem dX12_occurs_10 : decode cX12_occurs 10 = .ok (.iload_n 2, 1) := by decide +kernel
theorem dX12_occurs_11 : decode cX12_occurs 11 = .ok (.imul, 1) := by decide +kernel
theorem dX12_occurs_12 : decode cX12_occurs 12 = .ok (.iaload, 1) := by decide +kernel
theorem dX12_occurs_13 : decode cX12_occurs 13 = .ok (.if_icmp .ge 36, 3) := by decide +kernel
theorem dX12_occurs_16 : decode cX12_occurs 16 = .ok (.aload_n 0, 1) := by decide +kernel
theorem dX12_occurs_17 : decode cX12_occurs 17 = .ok (.getfield 78, 3) := by decide +kernel
theorem dX12_occurs_20 : decode cX12_occurs 20 = .ok (.iload_n 1, 1) := by decide +kernel
theorem dX12_occurs_21 : decode cX12_occurs 21 = .ok (.aaload, 1) := by decide +kernel
theorem dX12_occurs_22 : decode cX12_occurs 22 = .ok (.iload_n 3, 1) := by decide +kernel
theorem dX12_occurs_23 : decode cX12_occurs 23 = .ok (.iload 4, 2) := by decide +kernel
theorem dX12_occurs_25 : decode cX12_occurs 25 = .ok (.iadd, 1) := by decide +kernel
theorem dX12_occurs_26 : decode cX12_occurs 26 = .ok (.iaload, 1) := by decide +kernel
theorem dX12_occurs_27 : decode cX12_occurs 27 = .ok (.aload_n 0, 1) := by decide +kernel
theorem dX12_occurs_28 : decode cX12_occurs 28 = .ok (.getfield 69, 3) := by decide +kernel
theorem dX12_occurs_31 : decode cX12_occurs 31 = .ok (.iconst 2, 1) := by decide +kernel
theorem dX12_occurs_32 : decode cX12_occurs 32 = .ok (.iload_n 2, 1) := by decide +kernel
theorem dX12_occurs_33 : decode cX12_occurs 33 = .ok (.imul, 1) := by decide +kernel
theorem dX12_occurs_34 : decode cX12_occurs 34 = .ok (.aaload, 1) := by decide +kernel
theorem dX12_occurs_35 : decode cX12_occurs 35 = .ok (.iload 4, 2) := by decide +kernel
theorem dX12_occurs_37 : decode cX12_occurs 37 = .ok (.iaload, 1) := by decide +kernel
theorem dX12_occurs_38 : decode cX12_occurs 38 = .ok (.if_icmp .eq 5, 3) := by decide +kernel
theorem dX12_occurs_41 : decode cX12_occurs 41 = .ok (.iconst 0, 1) := by decide +kernel
theorem dX12_occurs_42 : decode cX12_occurs 42 = .ok (.ireturn, 1) := by decide +kernel
theorem dX12_occurs_43 : decode cX12_occurs 43 = .ok (.iinc 4 1, 3) := by decide +kernel
theorem dX12_occurs_46 : decode cX12_occurs 46 = .ok (.goto (-43), 3) := by decide +kernel
theorem dX12_occurs_49 : decode cX12_occurs 49 = .ok (.iconst 1, 1) := by decide +kernel
theorem dX12_occurs_50 : decode cX12_occurs 50 = .ok (.ireturn, 1) := by decide +kernel
theorem dX12_rewrite_0 : decode cX12_rewrite 0 = .ok (.aload_n 0, 1) := by decide +kernel
theorem dX12_rewrite_1 : decode cX12_rewrite 1 = .ok (.iconst 0, 1) := by decide +kernel
theorem dX12_rewrite_2 : decode cX12_rewrite 2 = .ok (.putfield 265, 3) := by decide +kernel
theorem dX12_rewrite_5 : decode cX12_rewrite 5 = .ok (.iconst 0, 1) := by decide +kernel
theorem dX12_rewrite_6 : decode cX12_rewrite 6 = .ok (.istore 4, 2) := by decide +kernel
theorem dX12_rewrite_8 : decode cX12_rewrite 8 = .ok (.iload 4, 2) := by decide +kernel
theorem dX12_rewrite_10 : decode cX12_rewrite 10 = .ok (.iload_n 3, 1) := by decide +kernel
theorem dX12_rewrite_11 : decode cX12_rewrite 11 = .ok (.if_icmp .ge 37, 3) := by decide +kernel
theorem dX12_rewrite_14 : decode cX12_rewrite 14 = .ok (.aload_n 0, 1) := by decide +kernel
theorem dX12_rewrite_15 : decode cX12_rewrite 15 = .ok (.getfield 90, 3) := by decide +kernel
theorem dX12_rewrite_18 : decode cX12_rewrite 18 = .ok (.aload_n 0, 1) := by decide +kernel
theorem dX12_rewrite_19 : decode cX12_rewrite 19 = .ok (.getfield 265, 3) := by decide +kernel
theorem dX12_rewrite_22 : decode cX12_rewrite 22 = .ok (.aload_n 0, 1) := by decide +kernel
theorem dX12_rewrite_23 : decode cX12_rewrite 23 = .ok (.getfield 78, 3) := by decide +kernel
theorem dX12_rewrite_26 : decode cX12_rewrite 26 = .ok (.iload_n 1, 1) := by decide +kernel
theorem dX12_rewrite_27 : decode cX12_rewrite 27 = .ok (.aaload, 1) := by decide +kernel
theorem dX12_rewrite_28 : decode cX12_rewrite 28 = .ok (.iload 4, 2) := by decide +kernel
theorem dX12_rewrite_30 : decode cX12_rewrite 30 = .ok (.iaload, 1) := by decide +kernel
theorem dX12_rewrite_31 : decode cX12_rewrite 31 = .ok (.iastore, 1) := by decide +kernel
theorem dX12_rewrite_32 : decode cX12_rewrite 32 = .ok (.aload_n 0, 1) := by decide +kernel
theorem dX12_rewrite_33 : decode cX12_rewrite 33 = .ok (.dup, 1) := by decide +kernel
theorem dX12_rewrite_34 : decode cX12_rewrite 34 = .ok (.getfield 265, 3) := by decide +kernel
theorem dX12_rewrite_37 : decode cX12_rewrite 37 = .ok (.iconst 1, 1) := by decide +kernel
theorem dX12_rewrite_38 : decode cX12_rewrite 38 = .ok (.iadd, 1) := by decide +kernel
theorem dX12_rewrite_39 : decode cX12_rewrite 39 = .ok (.putfield 265, 3) := by decide +kernel
theorem dX12_rewrite_42 : decode cX12_rewrite 42 = .ok (.iinc 4 1, 3) := by decide +kernel
theorem dX12_rewrite_45 : decode cX12_rewrite 45 = .ok (.goto (-37), 3) := by decide +kernel
theorem dX12_rewrite_48 : decode cX12_rewrite 48 = .ok (.iconst 0, 1) := by decide +kernel
theorem dX12_rewrite_49 : decode cX12_rewrite 49 = .ok (.istore 4, 2) := by decide +kernel
theorem dX12_rewrite_51 : decode cX12_rewrite 51 = .ok (.iload 4, 2) := by decide +kernel
theorem dX12_rewrite_53 : decode cX12_rewrite 53 = .ok (.aload_n 0, 1) := by decide +kernel
theorem dX12_rewrite_54 : decode cX12_rewrite 54 = .ok (.getfield 72, 3) := by decide +kernel
theorem dX12_rewrite_57 : decode cX12_rewrite 57 = .ok (.iconst 2, 1) := by decide +kernel
theorem dX12_rewrite_58 : decode cX12_rewrite 58 = .ok (.iload_n 2, 1) := by decide +kernel
theorem dX12_rewrite_59 : decode cX12_rewrite 59 = .ok (.imul, 1) := by decide +kernel
theorem dX12_rewrite_60 : decode cX12_rewrite 60 = .ok (.iconst 1, 1) := by decide +kernel
theorem dX12_rewrite_61 : decode cX12_rewrite 61 = .ok (.iadd, 1) := by decide +kernel
theorem dX12_rewrite_62 : decode cX12_rewrite 62 = .ok (.iaload, 1) := by decide +kernel
theorem dX12_rewrite_63 : decode cX12_rewrite 63 = .ok (.if_icmp .ge 41, 3) := by decide +kernel
theorem dX12_rewrite_66 : decode cX12_rewrite 66 = .ok (.aload_n 0, 1) := by decide +kernel
theorem dX12_rewrite_67 : decode cX12_rewrite 67 = .ok (.getfield 90, 3) := by decide +kernel
theorem dX12_rewrite_70 : decode cX12_rewrite 70 = .ok (.aload_n 0, 1) := by decide +kernel
theorem dX12_rewrite_71 : decode cX12_rewrite 71 = .ok (.getfield 265, 3) := by decide +kernel
theorem dX12_rewrite_74 : decode cX12_rewrite 74 = .ok (.aload_n 0, 1) := by decide +kernel
theorem dX12_rewrite_75 : decode cX12_rewrite 75 = .ok (.getfield 69, 3) := by decide +kernel
theorem dX12_rewrite_78 : decode cX12_rewrite 78 = .ok (.iconst 2, 1) := by decide +kernel
theorem dX12_rewrite_79 : decode cX12_rewrite 79 = .ok (.iload_n 2, 1) := by decide +kernel
theorem dX12_rewrite_80 : decode cX12_rewrite 80 = .ok (.imul, 1) := by decide +kernel
theorem dX12_rewrite_81 : decode cX12_rewrite 81 = .ok (.iconst 1, 1) := by decide +kernel
theorem dX12_rewrite_82 : decode cX12_rewrite 82 = .ok (.iadd, 1) := by decide +kernel
theorem dX12_rewrite_83 : decode cX12_rewrite 83 = .ok (.aaload, 1) := by decide +kernel
theorem dX12_rewrite_84 : decode cX12_rewrite 84 = .ok (.iload 4, 2) := by decide +kernel
theorem dX12_rewrite_86 : decode cX12_rewrite 86 = .ok (.iaload, 1) := by decide +kernel
theorem dX12_rewrite_87 : decode cX12_rewrite 87 = .ok (.iastore, 1) := by decide +kernel
theorem dX12_rewrite_88 : decode cX12_rewrite 88 = .ok (.aload_n 0, 1) := by decide +kernel
theorem dX12_rewrite_89 : decode cX12_rewrite 89 = .ok (.dup, 1) := by decide +kernel
theorem dX12_rewrite_90 : decode cX12_rewrite 90 = .ok (.getfield 265, 3) := by decide +kernel
theorem dX12_rewrite_93 : decode cX12_rewrite 93 = .ok (.iconst 1, 1) := by decide +kernel
theorem dX12_rewrite_94 : decode cX12_rewrite 94 = .ok (.iadd, 1) := by decide +kernel
theorem dX12_rewrite_95 : decode cX12_rewrite 95 = .ok (.putfield 265, 3) := by decide +kernel
theorem dX12_rewrite_98 : decode cX12_rewrite 98 = .ok (.iinc 4 1, 3) := by decide +kernel
theorem dX12_rewrite_101 : decode cX12_rewrite 101 = .ok (.goto (-50), 3) := by decide +kernel
theorem dX12_rewrite_104 : decode cX12_rewrite 104 = .ok (.iload_n 3, 1) := by decide +kernel
theorem dX12_rewrite_105 : decode cX12_rewrite 105 = .ok (.aload_n 0, 1) := by decide +kernel
theorem dX12_rewrite_106 : decode cX12_rewrite 106 = .ok (.getfield 72, 3) := by decide +kernel
theorem dX12_rewrite_109 : decode cX12_rewrite 109 = .ok (.iconst 2, 1) := by decide +kernel
theorem dX12_rewrite_110 : decode cX12_rewrite 110 = .ok (.iload_n 2, 1) := by decide +kernel
theorem dX12_rewrite_111 : decode cX12_rewrite 111 = .ok (.imul, 1) := by decide +kernel
theorem dX12_rewrite_112 : decode cX12_rewrite 112 = .ok (.iaload, 1) := by decide +kernel
theorem dX12_rewrite_113 : decode cX12_rewrite 113 = .ok (.iadd, 1) := by decide +kernel
theorem dX12_rewrite_114 : decode cX12_rewrite 114 = .ok (.istore 4, 2) := by decide +kernel
theorem dX12_rewrite_116 : decode cX12_rewrite 116 = .ok (.iload 4, 2) := by decide +kernel
theorem dX12_rewrite_118 : decode cX12_rewrite 118 = .ok (.aload_n 0, 1) := by decide +kernel
theorem dX12_rewrite_119 : decode cX12_rewrite 119 = .ok (.getfield 75, 3) := by decide +kernel
theorem dX12_rewrite_122 : decode cX12_rewrite 122 = .ok (.iload_n 1, 1) := by decide +kernel
theorem dX12_rewrite_123 : decode cX12_rewrite 123 = .ok (.iaload, 1) := by decide +kernel
theorem dX12_rewrite_124 : decode cX12_rewrite 124 = .ok (.if_icmp .ge 37, 3) := by decide +kernel
theorem dX12_rewrite_127 : decode cX12_rewrite 127 = .ok (.aload_n 0, 1) := by decide +kernel
theorem dX12_rewrite_128 : decode cX12_rewrite 128 = .ok (.getfield 90, 3) := by decide +kernel
theorem dX12_rewrite_131 : decode cX12_rewrite 131 = .ok (.aload_n 0, 1) := by decide +kernel
theorem dX12_rewrite_132 : decode cX12_rewrite 132 = .ok (.getfield 265, 3) := by decide +kernel
theorem dX12_rewrite_135 : decode cX12_rewrite 135 = .ok (.aload_n 0, 1) := by decide +kernel
theorem dX12_rewrite_136 : decode cX12_rewrite 136 = .ok (.getfield 78, 3) := by decide +kernel
theorem dX12_rewrite_139 : decode cX12_rewrite 139 = .ok (.iload_n 1, 1) := by decide +kernel
theorem dX12_rewrite_140 : decode cX12_rewrite 140 = .ok (.aaload, 1) := by decide +kernel
theorem dX12_rewrite_141 : decode cX12_rewrite 141 = .ok (.iload 4, 2) := by decide +kernel
theorem dX12_rewrite_143 : decode cX12_rewrite 143 = .ok (.iaload, 1) := by decide +kernel
theorem dX12_rewrite_144 : decode cX12_rewrite 144 = .ok (.iastore, 1) := by decide +kernel
theorem dX12_rewrite_145 : decode cX12_rewrite 145 = .ok (.aload_n 0, 1) := by decide +kernel
theorem dX12_rewrite_146 : decode cX12_rewrite 146 = .ok (.dup, 1) := by decide +kernel
theorem dX12_rewrite_147 : decode cX12_rewrite 147 = .ok (.getfield 265, 3) := by decide +kernel
theorem dX12_rewrite_150 : decode cX12_rewrite 150 = .ok (.iconst 1, 1) := by decide +kernel
theorem dX12_rewrite_151 : decode cX12_rewrite 151 = .ok (.iadd, 1) := by decide +kernel
theorem dX12_rewrite_152 : decode cX12_rewrite 152 = .ok (.putfield 265, 3) := by decide +kernel
theorem dX12_rewrite_155 : decode cX12_rewrite 155 = .ok (.iinc 4 1, 3) := by decide +kernel
theorem dX12_rewrite_158 : decode cX12_rewrite 158 = .ok (.goto (-42), 3) := by decide +kernel
theorem dX12_rewrite_161 : decode cX12_rewrite 161 = .ok (.return_, 1) := by decide +kernel
theorem dX12_isWordOf_0 : decode cX12_isWordOf 0 = .ok (.aload_n 0, 1) := by decide +kernel
theorem dX12_isWordOf_1 : decode cX12_isWordOf 1 = .ok (.getfield 75, 3) := by decide +kernel
theorem dX12_isWordOf_4 : decode cX12_isWordOf 4 = .ok (.iload_n 1, 1) := by decide +kernel
theorem dX12_isWordOf_5 : decode cX12_isWordOf 5 = .ok (.iaload, 1) := by decide +kernel
theorem dX12_isWordOf_6 : decode cX12_isWordOf 6 = .ok (.aload_n 0, 1) := by decide +kernel
theorem dX12_isWordOf_7 : decode cX12_isWordOf 7 = .ok (.getfield 265, 3) := by decide +kernel
theorem dX12_isWordOf_10 : decode cX12_isWordOf 10 = .ok (.if_icmp .eq 5, 3) := by decide +kernel
theorem dX12_isWordOf_13 : decode cX12_isWordOf 13 = .ok (.iconst 0, 1) := by decide +kernel
theorem dX12_isWordOf_14 : decode cX12_isWordOf 14 = .ok (.ireturn, 1) := by decide +kernel
theorem dX12_isWordOf_15 : decode cX12_isWordOf 15 = .ok (.iconst 0, 1) := by decide +kernel
theorem dX12_isWordOf_16 : decode cX12_isWordOf 16 = .ok (.istore_n 2, 1) := by decide +kernel
theorem dX12_isWordOf_17 : decode cX12_isWordOf 17 = .ok (.iload_n 2, 1) := by decide +kernel
theorem dX12_isWordOf_18 : decode cX12_isWordOf 18 = .ok (.aload_n 0, 1) := by decide +kernel
theorem dX12_isWordOf_19 : decode cX12_isWordOf 19 = .ok (.getfield 265, 3) := by decide +kernel
theorem dX12_isWordOf_22 : decode cX12_isWordOf 22 = .ok (.if_icmp .ge 28, 3) := by decide +kernel
theorem dX12_isWordOf_25 : decode cX12_isWordOf 25 = .ok (.aload_n 0, 1) := by decide +kernel
theorem dX12_isWordOf_26 : decode cX12_isWordOf 26 = .ok (.getfield 78, 3) := by decide +kernel
theorem dX12_isWordOf_29 : decode cX12_isWordOf 29 = .ok (.iload_n 1, 1) := by decide +kernel
theorem dX12_isWordOf_30 : decode cX12_isWordOf 30 = .ok (.aaload, 1) := by decide +kernel
theorem dX12_isWordOf_31 : decode cX12_isWordOf 31 = .ok (.iload_n 2, 1) := by decide +kernel
theorem dX12_isWordOf_32 : decode cX12_isWordOf 32 = .ok (.iaload, 1) := by decide +kernel
theorem dX12_isWordOf_33 : decode cX12_isWordOf 33 = .ok (.aload_n 0, 1) := by decide +kernel
theorem dX12_isWordOf_34 : decode cX12_isWordOf 34 = .ok (.getfield 90, 3) := by decide +kernel
theorem dX12_isWordOf_37 : decode cX12_isWordOf 37 = .ok (.iload_n 2, 1) := by decide +kernel
theorem dX12_isWordOf_38 : decode cX12_isWordOf 38 = .ok (.iaload, 1) := by decide +kernel
theorem dX12_isWordOf_39 : decode cX12_isWordOf 39 = .ok (.if_icmp .eq 5, 3) := by decide +kernel
theorem dX12_isWordOf_42 : decode cX12_isWordOf 42 = .ok (.iconst 0, 1) := by decide +kernel
theorem dX12_isWordOf_43 : decode cX12_isWordOf 43 = .ok (.ireturn, 1) := by decide +kernel
theorem dX12_isWordOf_44 : decode cX12_isWordOf 44 = .ok (.iinc 2 1, 3) := by decide +kernel
theorem dX12_isWordOf_47 : decode cX12_isWordOf 47 = .ok (.goto (-30), 3) := by decide +kernel
theorem dX12_isWordOf_50 : decode cX12_isWordOf 50 = .ok (.iconst 1, 1) := by decide +kernel
theorem dX12_isWordOf_51 : decode cX12_isWordOf 51 = .ok (.ireturn, 1) := by decide +kernel
theorem dX12_addWord_0 : decode cX12_addWord 0 = .ok (.aload_n 0, 1) := by decide +kernel
theorem dX12_addWord_1 : decode cX12_addWord 1 = .ok (.getfield 75, 3) := by decide +kernel
theorem dX12_addWord_4 : decode cX12_addWord 4 = .ok (.aload_n 0, 1) := by decide +kernel
theorem dX12_addWord_5 : decode cX12_addWord 5 = .ok (.getfield 268, 3) := by decide +kernel
theorem dX12_addWord_8 : decode cX12_addWord 8 = .ok (.aload_n 0, 1) := by decide +kernel
theorem dX12_addWord_9 : decode cX12_addWord 9 = .ok (.getfield 265, 3) := by decide +kernel
theorem dX12_addWord_12 : decode cX12_addWord 12 = .ok (.iastore, 1) := by decide +kernel
theorem dX12_addWord_13 : decode cX12_addWord 13 = .ok (.iconst 0, 1) := by decide +kernel
theorem dX12_addWord_14 : decode cX12_addWord 14 = .ok (.istore_n 1, 1) := by decide +kernel
theorem dX12_addWord_15 : decode cX12_addWord 15 = .ok (.iload_n 1, 1) := by decide +kernel
theorem dX12_addWord_16 : decode cX12_addWord 16 = .ok (.aload_n 0, 1) := by decide +kernel
theorem dX12_addWord_17 : decode cX12_addWord 17 = .ok (.getfield 265, 3) := by decide +kernel
theorem dX12_addWord_20 : decode cX12_addWord 20 = .ok (.if_icmp .ge 26, 3) := by decide +kernel
theorem dX12_addWord_23 : decode cX12_addWord 23 = .ok (.aload_n 0, 1) := by decide +kernel
theorem dX12_addWord_24 : decode cX12_addWord 24 = .ok (.getfield 78, 3) := by decide +kernel
theorem dX12_addWord_27 : decode cX12_addWord 27 = .ok (.aload_n 0, 1) := by decide +kernel
theorem dX12_addWord_28 : decode cX12_addWord 28 = .ok (.getfield 268, 3) := by decide +kernel
theorem dX12_addWord_31 : decode cX12_addWord 31 = .ok (.aaload, 1) := by decide +kernel
theorem dX12_addWord_32 : decode cX12_addWord 32 = .ok (.iload_n 1, 1) := by decide +kernel
theorem dX12_addWord_33 : decode cX12_addWord 33 = .ok (.aload_n 0, 1) := by decide +kernel
theorem dX12_addWord_34 : decode cX12_addWord 34 = .ok (.getfield 90, 3) := by decide +kernel
theorem dX12_addWord_37 : decode cX12_addWord 37 = .ok (.iload_n 1, 1) := by decide +kernel
theorem dX12_addWord_38 : decode cX12_addWord 38 = .ok (.iaload, 1) := by decide +kernel
theorem dX12_addWord_39 : decode cX12_addWord 39 = .ok (.iastore, 1) := by decide +kernel
theorem dX12_addWord_40 : decode cX12_addWord 40 = .ok (.iinc 1 1, 3) := by decide +kernel
theorem dX12_addWord_43 : decode cX12_addWord 43 = .ok (.goto (-28), 3) := by decide +kernel
theorem dX12_addWord_46 : decode cX12_addWord 46 = .ok (.aload_n 0, 1) := by decide +kernel
theorem dX12_addWord_47 : decode cX12_addWord 47 = .ok (.dup, 1) := by decide +kernel
theorem dX12_addWord_48 : decode cX12_addWord 48 = .ok (.getfield 268, 3) := by decide +kernel
theorem dX12_addWord_51 : decode cX12_addWord 51 = .ok (.iconst 1, 1) := by decide +kernel
theorem dX12_addWord_52 : decode cX12_addWord 52 = .ok (.iadd, 1) := by decide +kernel
theorem dX12_addWord_53 : decode cX12_addWord 53 = .ok (.putfield 268, 3) := by decide +kernel
theorem dX12_addWord_56 : decode cX12_addWord 56 = .ok (.return_, 1) := by decide +kernel
theorem dX12_hasStep_0 : decode cX12_hasStep 0 = .ok (.iconst 0, 1) := by decide +kernel
theorem dX12_hasStep_1 : decode cX12_hasStep 1 = .ok (.istore 4, 2) := by decide +kernel
theorem dX12_hasStep_3 : decode cX12_hasStep 3 = .ok (.iload 4, 2) := by decide +kernel
theorem dX12_hasStep_5 : decode cX12_hasStep 5 = .ok (.aload_n 0, 1) := by decide +kernel
theorem dX12_hasStep_6 : decode cX12_hasStep 6 = .ok (.getfield 271, 3) := by decide +kernel
theorem dX12_hasStep_9 : decode cX12_hasStep 9 = .ok (.if_icmp .ge 44, 3) := by decide +kernel
theorem dX12_hasStep_12 : decode cX12_hasStep 12 = .ok (.aload_n 0, 1) := by decide +kernel
theorem dX12_hasStep_13 : decode cX12_hasStep 13 = .ok (.getfield 81, 3) := by decide +kernel
theorem dX12_hasStep_16 : decode cX12_hasStep 16 = .ok (.iload 4, 2) := by decide +kernel
theorem dX12_hasStep_18 : decode cX12_hasStep 18 = .ok (.iaload, 1) := by decide +kernel
theorem dX12_hasStep_19 : decode cX12_hasStep 19 = .ok (.iload_n 1, 1) := by decide +kernel
theorem dX12_hasStep_20 : decode cX12_hasStep 20 = .ok (.if_icmp .ne 27, 3) := by decide +kernel
theorem dX12_hasStep_23 : decode cX12_hasStep 23 = .ok (.aload_n 0, 1) := by decide +kernel
theorem dX12_hasStep_24 : decode cX12_hasStep 24 = .ok (.getfield 84, 3) := by decide +kernel
theorem dX12_hasStep_27 : decode cX12_hasStep 27 = .ok (.iload 4, 2) := by decide +kernel
theorem dX12_hasStep_29 : decode cX12_hasStep 29 = .ok (.iaload, 1) := by decide +kernel
theorem dX12_hasStep_30 : decode cX12_hasStep 30 = .ok (.iload_n 2, 1) := by decide +kernel
theorem dX12_hasStep_31 : decode cX12_hasStep 31 = .ok (.if_icmp .ne 16, 3) := by decide +kernel
theorem dX12_hasStep_34 : decode cX12_hasStep 34 = .ok (.aload_n 0, 1) := by decide +kernel
theorem dX12_hasStep_35 : decode cX12_hasStep 35 = .ok (.getfield 87, 3) := by decide +kernel
theorem dX12_hasStep_38 : decode cX12_hasStep 38 = .ok (.iload 4, 2) := by decide +kernel
theorem dX12_hasStep_40 : decode cX12_hasStep 40 = .ok (.iaload, 1) := by decide +kernel
theorem dX12_hasStep_41 : decode cX12_hasStep 41 = .ok (.iload_n 3, 1) := by decide +kernel
theorem dX12_hasStep_42 : decode cX12_hasStep 42 = .ok (.if_icmp .ne 5, 3) := by decide +kernel
theorem dX12_hasStep_45 : decode cX12_hasStep 45 = .ok (.iconst 1, 1) := by decide +kernel
theorem dX12_hasStep_46 : decode cX12_hasStep 46 = .ok (.ireturn, 1) := by decide +kernel
theorem dX12_hasStep_47 : decode cX12_hasStep 47 = .ok (.iinc 4 1, 3) := by decide +kernel
theorem dX12_hasStep_50 : decode cX12_hasStep 50 = .ok (.goto (-47), 3) := by decide +kernel
theorem dX12_hasStep_53 : decode cX12_hasStep 53 = .ok (.iconst 0, 1) := by decide +kernel
theorem dX12_hasStep_54 : decode cX12_hasStep 54 = .ok (.ireturn, 1) := by decide +kernel
set_option maxRecDepth 20000 in
theorem ggX12_take_X12_isWordOf : GoodIn wsX12_take wsX12_isWordOf := goodIn_r _ [11, 12, 1, 13, 14, 23, 24, 25, 26, 27, 28, 29, 30, 31, 32, 33, 34, 35, 36, 37, 38, 39, 40, 41, 42, 43, 44, 45, 46, 47, 48, 49, 50, 51, 52, 53, 54, 55, 56, 57, 58, 59, 60, 61, 62, 63, 64, 65, 66, 67, 68, 69, 70, 71, 72, 73, 74] (by decide +kernel) (by decide +kernel)
set_option maxRecDepth 20000 in
theorem gX12_take_X12_isWordOf : GoodIn wsX12_take (wsV RX12 274 RX12 yX12_isWordOf wsX12_isWordOf) := goodIn_app (goodIn_of _ (by decide +kernel)) ggX12_take_X12_isWordOf
set_option maxRecDepth 20000 in
theorem ggX12_take_X12_hasStep : GoodIn wsX12_take wsX12_hasStep := goodIn_r _ [18, 3, 4, 5, 6, 23, 24, 25, 26, 27, 28, 29, 30, 31, 32, 33, 34, 35, 36, 37, 38, 39, 40, 41, 42, 43, 44, 45, 46, 47, 48, 49, 50, 51, 52, 53, 54, 55, 56, 57, 58, 59, 60, 61, 62, 63, 64, 65, 66, 67, 68, 69, 70, 71, 72, 73, 74] (by decide +kernel) (by decide +kernel)
set_option maxRecDepth 20000 in
theorem gX12_take_X12_hasStep : GoodIn wsX12_take (wsV RX12 277 RX12 yX12_hasStep wsX12_hasStep) := goodIn_app (goodIn_of _ (by decide +kernel)) ggX12_take_X12_hasStep
set_option maxRecDepth 20000 in
theorem ggX12_take_X12_addWord : GoodIn wsX12_take wsX12_addWord := goodIn_r _ [22, 12, 2, 1, 13, 14, 23, 24, 25, 26, 27, 28, 29, 30, 31, 32, 33, 34, 35, 36, 37, 38, 39, 40, 41, 42, 43, 44, 45, 46, 47, 48, 49, 50, 51, 52, 53, 54, 55, 56, 57, 58, 59, 60, 61, 62, 63, 64, 65, 66, 67, 68, 69, 70, 71, 72, 73, 74] (by decide +kernel) (by decide +kernel)
set_option maxRecDepth 20000 in
theorem gX12_take_X12_addWord : GoodIn wsX12_take (wsV RX12 280 RX12 yX12_addWord wsX12_addWord) := goodIn_app (goodIn_of _ (by decide +kernel)) ggX12_take_X12_addWord
theorem dX12_take_0 : decode cX12_take 0 = .ok (.aload_n 0, 1) := by decide +kernel
theorem dX12_take_1 : decode cX12_take 1 = .ok (.getfield 265, 3) := by decide +kernel
theorem dX12_take_4 : decode cX12_take 4 = .ok (.bipush 8, 2) := by decide +kernel
theorem dX12_take_6 : decode cX12_take 6 = .ok (.if_icmp .le 5, 3) := by decide +kernel
theorem dX12_take_9 : decode cX12_take 9 = .ok (.iconst 0, 1) := by decide +kernel
theorem dX12_take_10 : decode cX12_take 10 = .ok (.ireturn, 1) := by decide +kernel
theorem dX12_take_11 : decode cX12_take 11 = .ok (.iconst 0, 1) := by decide +kernel
theorem dX12_take_12 : decode cX12_take 12 = .ok (.istore_n 3, 1) := by decide +kernel
theorem dX12_take_13 : decode cX12_take 13 = .ok (.iload_n 3, 1) := by decide +kernel
theorem dX12_take_14 : decode cX12_take 14 = .ok (.aload_n 0, 1) := by decide +kernel
theorem dX12_take_15 : decode cX12_take 15 = .ok (.getfield 268, 3) := by decide +kernel
theorem dX12_take_18 : decode cX12_take 18 = .ok (.if_icmp .ge 17, 3) := by decide +kernel
theorem dX12_take_21 : decode cX12_take 21 = .ok (.aload_n 0, 1) := by decide +kernel
theorem dX12_take_22 : decode cX12_take 22 = .ok (.iload_n 3, 1) := by decide +kernel
theorem dX12_take_23 : decode cX12_take 23 = .ok (.invokevirtual 274, 3) := by decide +kernel
theorem dX12_take_26 : decode cX12_take 26 = .ok (.ifCond .ne 9, 3) := by decide +kernel
theorem dX12_take_29 : decode cX12_take 29 = .ok (.iinc 3 1, 3) := by decide +kernel
theorem dX12_take_32 : decode cX12_take 32 = .ok (.goto (-19), 3) := by decide +kernel
theorem dX12_take_35 : decode cX12_take 35 = .ok (.iload_n 3, 1) := by decide +kernel
theorem dX12_take_36 : decode cX12_take 36 = .ok (.bipush 16, 2) := by decide +kernel
theorem dX12_take_38 : decode cX12_take 38 = .ok (.if_icmp .ne 5, 3) := by decide +kernel
theorem dX12_take_41 : decode cX12_take 41 = .ok (.iconst 1, 1) := by decide +kernel
theorem dX12_take_42 : decode cX12_take 42 = .ok (.ireturn, 1) := by decide +kernel
theorem dX12_take_43 : decode cX12_take 43 = .ok (.iload_n 3, 1) := by decide +kernel
theorem dX12_take_44 : decode cX12_take 44 = .ok (.aload_n 0, 1) := by decide +kernel
theorem dX12_take_45 : decode cX12_take 45 = .ok (.getfield 268, 3) := by decide +kernel
theorem dX12_take_48 : decode cX12_take 48 = .ok (.if_icmp .eq 13, 3) := by decide +kernel
theorem dX12_take_51 : decode cX12_take 51 = .ok (.aload_n 0, 1) := by decide +kernel
theorem dX12_take_52 : decode cX12_take 52 = .ok (.iload_n 1, 1) := by decide +kernel
theorem dX12_take_53 : decode cX12_take 53 = .ok (.iload_n 3, 1) := by decide +kernel
theorem dX12_take_54 : decode cX12_take 54 = .ok (.iload_n 2, 1) := by decide +kernel
theorem dX12_take_55 : decode cX12_take 55 = .ok (.invokevirtual 277, 3) := by decide +kernel
theorem dX12_take_58 : decode cX12_take 58 = .ok (.ifCond .ne 7, 3) := by decide +kernel
theorem dX12_take_61 : decode cX12_take 61 = .ok (.iconst 1, 1) := by decide +kernel
theorem dX12_take_62 : decode cX12_take 62 = .ok (.goto 4, 3) := by decide +kernel
theorem dX12_take_65 : decode cX12_take 65 = .ok (.iconst 0, 1) := by decide +kernel
theorem dX12_take_66 : decode cX12_take 66 = .ok (.istore 4, 2) := by decide +kernel
theorem dX12_take_68 : decode cX12_take 68 = .ok (.iload 4, 2) := by decide +kernel
theorem dX12_take_70 : decode cX12_take 70 = .ok (.ifCond .eq 14, 3) := by decide +kernel
theorem dX12_take_73 : decode cX12_take 73 = .ok (.aload_n 0, 1) := by decide +kernel
theorem dX12_take_74 : decode cX12_take 74 = .ok (.getfield 271, 3) := by decide +kernel
theorem dX12_take_77 : decode cX12_take 77 = .ok (.bipush 32, 2) := by decide +kernel
theorem dX12_take_79 : decode cX12_take 79 = .ok (.if_icmp .ne 5, 3) := by decide +kernel
theorem dX12_take_82 : decode cX12_take 82 = .ok (.iconst 2, 1) := by decide +kernel
theorem dX12_take_83 : decode cX12_take 83 = .ok (.ireturn, 1) := by decide +kernel
theorem dX12_take_84 : decode cX12_take 84 = .ok (.iload_n 3, 1) := by decide +kernel
theorem dX12_take_85 : decode cX12_take 85 = .ok (.aload_n 0, 1) := by decide +kernel
theorem dX12_take_86 : decode cX12_take 86 = .ok (.getfield 268, 3) := by decide +kernel
theorem dX12_take_89 : decode cX12_take 89 = .ok (.if_icmp .ne 7, 3) := by decide +kernel
theorem dX12_take_92 : decode cX12_take 92 = .ok (.aload_n 0, 1) := by decide +kernel
theorem dX12_take_93 : decode cX12_take 93 = .ok (.invokevirtual 280, 3) := by decide +kernel
theorem dX12_take_96 : decode cX12_take 96 = .ok (.iload 4, 2) := by decide +kernel
theorem dX12_take_98 : decode cX12_take 98 = .ok (.ifCond .eq 43, 3) := by decide +kernel
theorem dX12_take_101 : decode cX12_take 101 = .ok (.aload_n 0, 1) := by decide +kernel
theorem dX12_take_102 : decode cX12_take 102 = .ok (.getfield 81, 3) := by decide +kernel
theorem dX12_take_105 : decode cX12_take 105 = .ok (.aload_n 0, 1) := by decide +kernel
theorem dX12_take_106 : decode cX12_take 106 = .ok (.getfield 271, 3) := by decide +kernel
theorem dX12_take_109 : decode cX12_take 109 = .ok (.iload_n 1, 1) := by decide +kernel
theorem dX12_take_110 : decode cX12_take 110 = .ok (.iastore, 1) := by decide +kernel
theorem dX12_take_111 : decode cX12_take 111 = .ok (.aload_n 0, 1) := by decide +kernel
theorem dX12_take_112 : decode cX12_take 112 = .ok (.getfield 84, 3) := by decide +kernel
theorem dX12_take_115 : decode cX12_take 115 = .ok (.aload_n 0, 1) := by decide +kernel
theorem dX12_take_116 : decode cX12_take 116 = .ok (.getfield 271, 3) := by decide +kernel
theorem dX12_take_119 : decode cX12_take 119 = .ok (.iload_n 3, 1) := by decide +kernel
theorem dX12_take_120 : decode cX12_take 120 = .ok (.iastore, 1) := by decide +kernel
theorem dX12_take_121 : decode cX12_take 121 = .ok (.aload_n 0, 1) := by decide +kernel
theorem dX12_take_122 : decode cX12_take 122 = .ok (.getfield 87, 3) := by decide +kernel
theorem dX12_take_125 : decode cX12_take 125 = .ok (.aload_n 0, 1) := by decide +kernel
theorem dX12_take_126 : decode cX12_take 126 = .ok (.getfield 271, 3) := by decide +kernel
theorem dX12_take_129 : decode cX12_take 129 = .ok (.iload_n 2, 1) := by decide +kernel
theorem dX12_take_130 : decode cX12_take 130 = .ok (.iastore, 1) := by decide +kernel
theorem dX12_take_131 : decode cX12_take 131 = .ok (.aload_n 0, 1) := by decide +kernel
theorem dX12_take_132 : decode cX12_take 132 = .ok (.dup, 1) := by decide +kernel
theorem dX12_take_133 : decode cX12_take 133 = .ok (.getfield 271, 3) := by decide +kernel
theorem dX12_take_136 : decode cX12_take 136 = .ok (.iconst 1, 1) := by decide +kernel
theorem dX12_take_137 : decode cX12_take 137 = .ok (.iadd, 1) := by decide +kernel
theorem dX12_take_138 : decode cX12_take 138 = .ok (.putfield 271, 3) := by decide +kernel
theorem dX12_take_141 : decode cX12_take 141 = .ok (.iconst (-1), 1) := by decide +kernel
theorem dX12_take_142 : decode cX12_take 142 = .ok (.ireturn, 1) := by decide +kernel
set_option maxRecDepth 20000 in
theorem ggX12_expand_X12_occurs : GoodIn wsX12_expand wsX12_occurs := goodIn_r _ [9, 2, 10, 11, 39, 40, 41, 42, 43, 44, 45, 46, 47, 48, 49, 50, 51, 52, 53, 54, 55, 56, 57, 58, 59, 60, 61, 62, 63, 64, 65, 66, 67, 68, 69, 70, 71, 72, 73, 74, 75, 76, 77, 78, 79, 80, 81, 82, 83, 84, 85, 86, 87, 88, 89, 90] (by decide +kernel) (by decide +kernel)
set_option maxRecDepth 20000 in
theorem gX12_expand_X12_occurs : GoodIn wsX12_expand (wsV RX12 283 RX12 yX12_occurs wsX12_occurs) := goodIn_app (goodIn_of _ (by decide +kernel)) ggX12_expand_X12_occurs
set_option maxRecDepth 20000 in
theorem ggX12_expand_X12_rewrite : GoodIn wsX12_expand wsX12_rewrite := goodIn_r _ [15, 16, 17, 10, 2, 11, 3, 39, 40, 41, 42, 43, 44, 45, 46, 47, 48, 49, 50, 51, 52, 53, 54, 55, 56, 57, 58, 59, 60, 61, 62, 63, 64, 65, 66, 67, 68, 69, 70, 71, 72, 73, 74, 75, 76, 77, 78, 79, 80, 81, 82, 83, 84, 85, 86, 87, 88, 89, 90] (by decide +kernel) (by decide +kernel)
set_option maxRecDepth 20000 in
theorem gX12_expand_X12_rewrite : GoodIn wsX12_expand (wsV RX12 286 RX12 yX12_rewrite wsX12_rewrite) := goodIn_app (goodIn_of _ (by decide +kernel)) ggX12_expand_X12_rewrite
set_option maxRecDepth 20000 in
theorem ggX12_expand_X12_take : GoodIn wsX12_expand wsX12_take := goodIn_r _ [21, 16, 22, 23, 24, 25, 26, 27, 28, 29, 8, 30, 3, 10, 17, 31, 32, 33, 34, 35, 36, 37, 38, 39, 40, 41, 42, 43, 44, 45, 46, 47, 48, 49, 50, 51, 52, 53, 54, 55, 56, 57, 58, 59, 60, 61, 62, 63, 64, 65, 66, 67, 68, 69, 70, 71, 72, 73, 74, 75, 76, 77, 78, 79, 80, 81, 82, 83, 84, 85, 86, 87, 88, 89, 90] (by decide +kernel) (by decide +kernel)
set_option maxRecDepth 20000 in
theorem gX12_expand_X12_take : GoodIn wsX12_expand (wsV RX12 290 RX12 yX12_take wsX12_take) := goodIn_app (goodIn_of _ (by decide +kernel)) ggX12_expand_X12_take
theorem dX12_expand_0 : decode cX12_expand 0 = .ok (.iconst 0, 1) := by decide +kernel
theorem dX12_expand_1 : decode cX12_expand 1 = .ok (.istore_n 2, 1) := by decide +kernel
theorem dX12_expand_2 : decode cX12_expand 2 = .ok (.iload_n 2, 1) := by decide +kernel
theorem dX12_expand_3 : decode cX12_expand 3 = .ok (.aload_n 0, 1) := by decide +kernel
theorem dX12_expand_4 : decode cX12_expand 4 = .ok (.getfield 255, 3) := by decide +kernel
theorem dX12_expand_7 : decode cX12_expand 7 = .ok (.if_icmp .ge 90, 3) := by decide +kernel
theorem dX12_expand_10 : decode cX12_expand 10 = .ok (.iconst 0, 1) := by decide +kernel
theorem dX12_expand_11 : decode cX12_expand 11 = .ok (.istore_n 3, 1) := by decide +kernel
theorem dX12_expand_12 : decode cX12_expand 12 = .ok (.iload_n 3, 1) := by decide +kernel
theorem dX12_expand_13 : decode cX12_expand 13 = .ok (.aload_n 0, 1) := by decide +kernel
theorem dX12_expand_14 : decode cX12_expand 14 = .ok (.getfield 72, 3) := by decide +kernel
theorem dX12_expand_17 : decode cX12_expand 17 = .ok (.iconst 2, 1) := by decide +kernel
theorem dX12_expand_18 : decode cX12_expand 18 = .ok (.iload_n 2, 1) := by decide +kernel
theorem dX12_expand_19 : decode cX12_expand 19 = .ok (.imul, 1) := by decide +kernel
theorem dX12_expand_20 : decode cX12_expand 20 = .ok (.iaload, 1) := by decide +kernel
theorem dX12_expand_21 : decode cX12_expand 21 = .ok (.iadd, 1) := by decide +kernel
theorem dX12_expand_22 : decode cX12_expand 22 = .ok (.aload_n 0, 1) := by decide +kernel
theorem dX12_expand_23 : decode cX12_expand 23 = .ok (.getfield 75, 3) := by decide +kernel
theorem dX12_expand_26 : decode cX12_expand 26 = .ok (.iload_n 1, 1) := by decide +kernel
theorem dX12_expand_27 : decode cX12_expand 27 = .ok (.iaload, 1) := by decide +kernel
theorem dX12_expand_28 : decode cX12_expand 28 = .ok (.if_icmp .gt 63, 3) := by decide +kernel
theorem dX12_expand_31 : decode cX12_expand 31 = .ok (.aload_n 0, 1) := by decide +kernel
theorem dX12_expand_32 : decode cX12_expand 32 = .ok (.iload_n 1, 1) := by decide +kernel
theorem dX12_expand_33 : decode cX12_expand 33 = .ok (.iload_n 2, 1) := by decide +kernel
theorem dX12_expand_34 : decode cX12_expand 34 = .ok (.iload_n 3, 1) := by decide +kernel
theorem dX12_expand_35 : decode cX12_expand 35 = .ok (.invokevirtual 283, 3) := by decide +kernel
theorem dX12_expand_38 : decode cX12_expand 38 = .ok (.ifCond .eq 47, 3) := by decide +kernel
theorem dX12_expand_41 : decode cX12_expand 41 = .ok (.aload_n 0, 1) := by decide +kernel
theorem dX12_expand_42 : decode cX12_expand 42 = .ok (.iload_n 1, 1) := by decide +kernel
theorem dX12_expand_43 : decode cX12_expand 43 = .ok (.iload_n 2, 1) := by decide +kernel
theorem dX12_expand_44 : decode cX12_expand 44 = .ok (.iload_n 3, 1) := by decide +kernel
theorem dX12_expand_45 : decode cX12_expand 45 = .ok (.invokevirtual 286, 3) := by decide +kernel
theorem dX12_expand_48 : decode cX12_expand 48 = .ok (.aload_n 0, 1) := by decide +kernel
theorem dX12_expand_49 : decode cX12_expand 49 = .ok (.iload_n 1, 1) := by decide +kernel
theorem dX12_expand_50 : decode cX12_expand 50 = .ok (.iload_n 2, 1) := by decide +kernel
theorem dX12_expand_51 : decode cX12_expand 51 = .ok (.invokevirtual 290, 3) := by decide +kernel
theorem dX12_expand_54 : decode cX12_expand 54 = .ok (.istore 4, 2) := by decide +kernel
theorem dX12_expand_56 : decode cX12_expand 56 = .ok (.iload 4, 2) := by decide +kernel
theorem dX12_expand_58 : decode cX12_expand 58 = .ok (.ifCond .lt 27, 3) := by decide +kernel
theorem dX12_expand_61 : decode cX12_expand 61 = .ok (.aload_n 0, 1) := by decide +kernel
theorem dX12_expand_62 : decode cX12_expand 62 = .ok (.getfield 93, 3) := by decide +kernel
theorem dX12_expand_65 : decode cX12_expand 65 = .ok (.iconst 0, 1) := by decide +kernel
theorem dX12_expand_66 : decode cX12_expand 66 = .ok (.iload_n 1, 1) := by decide +kernel
theorem dX12_expand_67 : decode cX12_expand 67 = .ok (.iastore, 1) := by decide +kernel
theorem dX12_expand_68 : decode cX12_expand 68 = .ok (.aload_n 0, 1) := by decide +kernel
theorem dX12_expand_69 : decode cX12_expand 69 = .ok (.getfield 93, 3) := by decide +kernel
theorem dX12_expand_72 : decode cX12_expand 72 = .ok (.iconst 1, 1) := by decide +kernel
theorem dX12_expand_73 : decode cX12_expand 73 = .ok (.iload_n 2, 1) := by decide +kernel
theorem dX12_expand_74 : decode cX12_expand 74 = .ok (.iastore, 1) := by decide +kernel
theorem dX12_expand_75 : decode cX12_expand 75 = .ok (.aload_n 0, 1) := by decide +kernel
theorem dX12_expand_76 : decode cX12_expand 76 = .ok (.getfield 93, 3) := by decide +kernel
theorem dX12_expand_79 : decode cX12_expand 79 = .ok (.iconst 2, 1) := by decide +kernel
theorem dX12_expand_80 : decode cX12_expand 80 = .ok (.iload 4, 2) := by decide +kernel
theorem dX12_expand_82 : decode cX12_expand 82 = .ok (.iastore, 1) := by decide +kernel
theorem dX12_expand_83 : decode cX12_expand 83 = .ok (.iconst 0, 1) := by decide +kernel
theorem dX12_expand_84 : decode cX12_expand 84 = .ok (.ireturn, 1) := by decide +kernel
theorem dX12_expand_85 : decode cX12_expand 85 = .ok (.iinc 3 1, 3) := by decide +kernel
theorem dX12_expand_88 : decode cX12_expand 88 = .ok (.goto (-76), 3) := by decide +kernel
theorem dX12_expand_91 : decode cX12_expand 91 = .ok (.iinc 2 1, 3) := by decide +kernel
theorem dX12_expand_94 : decode cX12_expand 94 = .ok (.goto (-92), 3) := by decide +kernel
theorem dX12_expand_97 : decode cX12_expand 97 = .ok (.iconst 1, 1) := by decide +kernel
theorem dX12_expand_98 : decode cX12_expand 98 = .ok (.ireturn, 1) := by decide +kernel
set_option maxRecDepth 20000 in
theorem ggX12_explore_X12_lettersIn : GoodIn wsX12_explore wsX12_lettersIn := goodIn_r _ [23, 1, 24, 25, 26, 22, 27, 28, 29, 30, 31, 4, 32, 33, 34, 70, 71, 72, 73, 74, 75, 76, 77, 78, 79, 80, 81, 82, 83, 84, 85, 86, 87, 88, 89, 90, 91, 92, 93, 94, 95, 96, 97, 98, 99, 100, 101, 102, 103, 104, 105, 106, 107, 108, 109, 110, 111, 112, 113, 114, 115, 116, 117, 118, 119, 120, 121] (by decide +kernel) (by decide +kernel)
set_option maxRecDepth 20000 in
theorem gX12_explore_X12_lettersIn : GoodIn wsX12_explore (wsV RX12 258 RX12 yX12_lettersIn wsX12_lettersIn) := goodIn_app (goodIn_of _ (by decide +kernel)) ggX12_explore_X12_lettersIn
set_option maxRecDepth 20000 in
theorem ggX12_explore_X12_addWord : GoodIn wsX12_explore wsX12_addWord := goodIn_r _ [38, 9, 5, 2, 11, 3, 70, 71, 72, 73, 74, 75, 76, 77, 78, 79, 80, 81, 82, 83, 84, 85, 86, 87, 88, 89, 90, 91, 92, 93, 94, 95, 96, 97, 98, 99, 100, 101, 102, 103, 104, 105, 106, 107, 108, 109, 110, 111, 112, 113, 114, 115, 116, 117, 118, 119, 120, 121] (by decide +kernel) (by decide +kernel)
set_option maxRecDepth 20000 in
theorem gX12_explore_X12_addWord : GoodIn wsX12_explore (wsV RX12 280 RX12 yX12_addWord wsX12_addWord) := goodIn_app (goodIn_of _ (by decide +kernel)) ggX12_explore_X12_addWord
set_option maxRecDepth 20000 in
theorem ggX12_explore_X12_expand : GoodIn wsX12_explore wsX12_expand := goodIn_r _ [42, 43, 44, 9, 45, 46, 47, 48, 22, 49, 11, 50, 51, 52, 53, 54, 2, 3, 55, 56, 57, 58, 5, 6, 13, 15, 17, 59, 60, 61, 62, 63, 64, 65, 66, 35, 36, 37, 38, 70, 71, 72, 73, 74, 75, 76, 77, 78, 79, 80, 81, 82, 83, 84, 85, 86, 87, 88, 89, 90, 91, 92, 93, 94, 95, 96, 97, 98, 99, 100, 101, 102, 103, 104, 105, 106, 107, 108, 109, 110, 111, 112, 113, 114, 115, 116, 117, 118, 119, 120, 121] (by decide +kernel) (by decide +kernel)
set_option maxRecDepth 20000 in
theorem gX12_explore_X12_expand : GoodIn wsX12_explore (wsV RX12 293 RX12 yX12_expand wsX12_expand) := goodIn_app (goodIn_of _ (by decide +kernel)) ggX12_explore_X12_expand
set_option maxRecDepth 20000 in
theorem ggX12_explore_X12_copyRow : GoodIn wsX12_explore wsX12_copyRow := goodIn_r _ [69] (by decide +kernel) (by decide +kernel)
set_option maxRecDepth 20000 in
theorem gX12_explore_X12_copyRow : GoodIn wsX12_explore (va_wsS RX12 228 yX12_copyRow wsX12_copyRow) := goodIn_app (goodIn_of _ (by decide +kernel)) ggX12_explore_X12_copyRow
theorem dX12_explore_0 : decode cX12_explore 0 = .ok (.aload_n 0, 1) := by decide +kernel
theorem dX12_explore_1 : decode cX12_explore 1 = .ok (.getfield 249, 3) := by decide +kernel
theorem dX12_explore_4 : decode cX12_explore 4 = .ok (.istore_n 1, 1) := by decide +kernel
theorem dX12_explore_5 : decode cX12_explore 5 = .ok (.aload_n 0, 1) := by decide +kernel
theorem dX12_explore_6 : decode cX12_explore 6 = .ok (.iload_n 1, 1) := by decide +kernel
theorem dX12_explore_7 : decode cX12_explore 7 = .ok (.iconst 0, 1) := by decide +kernel
theorem dX12_explore_8 : decode cX12_explore 8 = .ok (.bipush 8, 2) := by decide +kernel
theorem dX12_explore_10 : decode cX12_explore 10 = .ok (.invokevirtual 258, 3) := by decide +kernel
theorem dX12_explore_13 : decode cX12_explore 13 = .ok (.istore_n 2, 1) := by decide +kernel
theorem dX12_explore_14 : decode cX12_explore 14 = .ok (.iload_n 2, 1) := by decide +kernel
theorem dX12_explore_15 : decode cX12_explore 15 = .ok (.ifCond .eq 8, 3) := by decide +kernel
theorem dX12_explore_18 : decode cX12_explore 18 = .ok (.iload_n 2, 1) := by decide +kernel
theorem dX12_explore_19 : decode cX12_explore 19 = .ok (.iload_n 1, 1) := by decide +kernel
theorem dX12_explore_20 : decode cX12_explore 20 = .ok (.if_icmp .ge 8, 3) := by decide +kernel
theorem dX12_explore_23 : decode cX12_explore 23 = .ok (.bipush (-100), 2) := by decide +kernel
theorem dX12_explore_25 : decode cX12_explore 25 = .ok (.iload_n 2, 1) := by decide +kernel
theorem dX12_explore_26 : decode cX12_explore 26 = .ok (.isub, 1) := by decide +kernel
theorem dX12_explore_27 : decode cX12_explore 27 = .ok (.ireturn, 1) := by decide +kernel
theorem dX12_explore_28 : decode cX12_explore 28 = .ok (.aload_n 0, 1) := by decide +kernel
theorem dX12_explore_29 : decode cX12_explore 29 = .ok (.iload_n 2, 1) := by decide +kernel
theorem dX12_explore_30 : decode cX12_explore 30 = .ok (.putfield 265, 3) := by decide +kernel
theorem dX12_explore_33 : decode cX12_explore 33 = .ok (.iconst 0, 1) := by decide +kernel
theorem dX12_explore_34 : decode cX12_explore 34 = .ok (.istore_n 3, 1) := by decide +kernel
theorem dX12_explore_35 : decode cX12_explore 35 = .ok (.iload_n 3, 1) := by decide +kernel
theorem dX12_explore_36 : decode cX12_explore 36 = .ok (.iload_n 2, 1) := by decide +kernel
theorem dX12_explore_37 : decode cX12_explore 37 = .ok (.if_icmp .ge 21, 3) := by decide +kernel
theorem dX12_explore_40 : decode cX12_explore 40 = .ok (.aload_n 0, 1) := by decide +kernel
theorem dX12_explore_41 : decode cX12_explore 41 = .ok (.getfield 90, 3) := by decide +kernel
theorem dX12_explore_44 : decode cX12_explore 44 = .ok (.iload_n 3, 1) := by decide +kernel
theorem dX12_explore_45 : decode cX12_explore 45 = .ok (.aload_n 0, 1) := by decide +kernel
theorem dX12_explore_46 : decode cX12_explore 46 = .ok (.getfield 66, 3) := by decide +kernel
theorem dX12_explore_49 : decode cX12_explore 49 = .ok (.iload_n 3, 1) := by decide +kernel
theorem dX12_explore_50 : decode cX12_explore 50 = .ok (.iaload, 1) := by decide +kernel
theorem dX12_explore_51 : decode cX12_explore 51 = .ok (.iastore, 1) := by decide +kernel
theorem dX12_explore_52 : decode cX12_explore 52 = .ok (.iinc 3 1, 3) := by decide +kernel
theorem dX12_explore_55 : decode cX12_explore 55 = .ok (.goto (-20), 3) := by decide +kernel
theorem dX12_explore_58 : decode cX12_explore 58 = .ok (.aload_n 0, 1) := by decide +kernel
theorem dX12_explore_59 : decode cX12_explore 59 = .ok (.iconst 0, 1) := by decide +kernel
theorem dX12_explore_60 : decode cX12_explore 60 = .ok (.putfield 268, 3) := by decide +kernel
theorem dX12_explore_63 : decode cX12_explore 63 = .ok (.aload_n 0, 1) := by decide +kernel
theorem dX12_explore_64 : decode cX12_explore 64 = .ok (.iconst 0, 1) := by decide +kernel
theorem dX12_explore_65 : decode cX12_explore 65 = .ok (.putfield 271, 3) := by decide +kernel
theorem dX12_explore_68 : decode cX12_explore 68 = .ok (.aload_n 0, 1) := by decide +kernel
theorem dX12_explore_69 : decode cX12_explore 69 = .ok (.invokevirtual 280, 3) := by decide +kernel
theorem dX12_explore_72 : decode cX12_explore 72 = .ok (.iconst 0, 1) := by decide +kernel
theorem dX12_explore_73 : decode cX12_explore 73 = .ok (.istore_n 3, 1) := by decide +kernel
theorem dX12_explore_74 : decode cX12_explore 74 = .ok (.iload_n 3, 1) := by decide +kernel
theorem dX12_explore_75 : decode cX12_explore 75 = .ok (.aload_n 0, 1) := by decide +kernel
theorem dX12_explore_76 : decode cX12_explore 76 = .ok (.getfield 268, 3) := by decide +kernel
theorem dX12_explore_79 : decode cX12_explore 79 = .ok (.if_icmp .ge 20, 3) := by decide +kernel
theorem dX12_explore_82 : decode cX12_explore 82 = .ok (.aload_n 0, 1) := by decide +kernel
theorem dX12_explore_83 : decode cX12_explore 83 = .ok (.iload_n 3, 1) := by decide +kernel
theorem dX12_explore_84 : decode cX12_explore 84 = .ok (.invokevirtual 293, 3) := by decide +kernel
theorem dX12_explore_87 : decode cX12_explore 87 = .ok (.ifCond .ne 6, 3) := by decide +kernel
theorem dX12_explore_90 : decode cX12_explore 90 = .ok (.bipush (-6), 2) := by decide +kernel
theorem dX12_explore_92 : decode cX12_explore 92 = .ok (.ireturn, 1) := by decide +kernel
theorem dX12_explore_93 : decode cX12_explore 93 = .ok (.iinc 3 1, 3) := by decide +kernel
theorem dX12_explore_96 : decode cX12_explore 96 = .ok (.goto (-22), 3) := by decide +kernel
theorem dX12_explore_99 : decode cX12_explore 99 = .ok (.aload_n 0, 1) := by decide +kernel
theorem dX12_explore_100 : decode cX12_explore 100 = .ok (.aload_n 0, 1) := by decide +kernel
theorem dX12_explore_101 : decode cX12_explore 101 = .ok (.getfield 268, 3) := by decide +kernel
theorem dX12_explore_104 : decode cX12_explore 104 = .ok (.putfield 132, 3) := by decide +kernel
theorem dX12_explore_107 : decode cX12_explore 107 = .ok (.aload_n 0, 1) := by decide +kernel
theorem dX12_explore_108 : decode cX12_explore 108 = .ok (.aload_n 0, 1) := by decide +kernel
theorem dX12_explore_109 : decode cX12_explore 109 = .ok (.getfield 271, 3) := by decide +kernel
theorem dX12_explore_112 : decode cX12_explore 112 = .ok (.putfield 135, 3) := by decide +kernel
theorem dX12_explore_115 : decode cX12_explore 115 = .ok (.aload_n 0, 1) := by decide +kernel
theorem dX12_explore_116 : decode cX12_explore 116 = .ok (.getfield 75, 3) := by decide +kernel
theorem dX12_explore_119 : decode cX12_explore 119 = .ok (.aload_n 0, 1) := by decide +kernel
theorem dX12_explore_120 : decode cX12_explore 120 = .ok (.getfield 27, 3) := by decide +kernel
theorem dX12_explore_123 : decode cX12_explore 123 = .ok (.invokestatic 228, 3) := by decide +kernel
theorem dX12_explore_126 : decode cX12_explore 126 = .ok (.iconst 0, 1) := by decide +kernel
theorem dX12_explore_127 : decode cX12_explore 127 = .ok (.istore_n 3, 1) := by decide +kernel
theorem dX12_explore_128 : decode cX12_explore 128 = .ok (.iload_n 3, 1) := by decide +kernel
theorem dX12_explore_129 : decode cX12_explore 129 = .ok (.aload_n 0, 1) := by decide +kernel
theorem dX12_explore_130 : decode cX12_explore 130 = .ok (.getfield 132, 3) := by decide +kernel
theorem dX12_explore_133 : decode cX12_explore 133 = .ok (.if_icmp .ge 24, 3) := by decide +kernel
theorem dX12_explore_136 : decode cX12_explore 136 = .ok (.aload_n 0, 1) := by decide +kernel
theorem dX12_explore_137 : decode cX12_explore 137 = .ok (.getfield 78, 3) := by decide +kernel
theorem dX12_explore_140 : decode cX12_explore 140 = .ok (.iload_n 3, 1) := by decide +kernel
theorem dX12_explore_141 : decode cX12_explore 141 = .ok (.aaload, 1) := by decide +kernel
theorem dX12_explore_142 : decode cX12_explore 142 = .ok (.aload_n 0, 1) := by decide +kernel
theorem dX12_explore_143 : decode cX12_explore 143 = .ok (.getfield 32, 3) := by decide +kernel
theorem dX12_explore_146 : decode cX12_explore 146 = .ok (.iload_n 3, 1) := by decide +kernel
theorem dX12_explore_147 : decode cX12_explore 147 = .ok (.aaload, 1) := by decide +kernel
theorem dX12_explore_148 : decode cX12_explore 148 = .ok (.invokestatic 228, 3) := by decide +kernel
theorem dX12_explore_151 : decode cX12_explore 151 = .ok (.iinc 3 1, 3) := by decide +kernel
theorem dX12_explore_154 : decode cX12_explore 154 = .ok (.goto (-26), 3) := by decide +kernel
theorem dX12_explore_157 : decode cX12_explore 157 = .ok (.aload_n 0, 1) := by decide +kernel
theorem dX12_explore_158 : decode cX12_explore 158 = .ok (.getfield 81, 3) := by decide +kernel
theorem dX12_explore_161 : decode cX12_explore 161 = .ok (.aload_n 0, 1) := by decide +kernel
theorem dX12_explore_162 : decode cX12_explore 162 = .ok (.getfield 17, 3) := by decide +kernel
theorem dX12_explore_165 : decode cX12_explore 165 = .ok (.invokestatic 228, 3) := by decide +kernel
theorem dX12_explore_168 : decode cX12_explore 168 = .ok (.aload_n 0, 1) := by decide +kernel
theorem dX12_explore_169 : decode cX12_explore 169 = .ok (.getfield 84, 3) := by decide +kernel
theorem dX12_explore_172 : decode cX12_explore 172 = .ok (.aload_n 0, 1) := by decide +kernel
theorem dX12_explore_173 : decode cX12_explore 173 = .ok (.getfield 21, 3) := by decide +kernel
theorem dX12_explore_176 : decode cX12_explore 176 = .ok (.invokestatic 228, 3) := by decide +kernel
theorem dX12_explore_179 : decode cX12_explore 179 = .ok (.aload_n 0, 1) := by decide +kernel
theorem dX12_explore_180 : decode cX12_explore 180 = .ok (.getfield 87, 3) := by decide +kernel
theorem dX12_explore_183 : decode cX12_explore 183 = .ok (.aload_n 0, 1) := by decide +kernel
theorem dX12_explore_184 : decode cX12_explore 184 = .ok (.getfield 24, 3) := by decide +kernel
theorem dX12_explore_187 : decode cX12_explore 187 = .ok (.invokestatic 228, 3) := by decide +kernel
theorem dX12_explore_190 : decode cX12_explore 190 = .ok (.aload_n 0, 1) := by decide +kernel
theorem dX12_explore_191 : decode cX12_explore 191 = .ok (.getfield 132, 3) := by decide +kernel
theorem dX12_explore_194 : decode cX12_explore 194 = .ok (.ireturn, 1) := by decide +kernel
set_option maxRecDepth 20000 in
theorem ggX12_failure_X12_isBetween : GoodIn wsX12_failure wsX12_isBetween := goodIn_r _ [5] (by decide +kernel) (by decide +kernel)
set_option maxRecDepth 20000 in
theorem gX12_failure_X12_isBetween : GoodIn wsX12_failure (va_wsS RX12 128 yX12_isBetween wsX12_isBetween) := goodIn_app (goodIn_of _ (by decide +kernel)) ggX12_failure_X12_isBetween
theorem dX12_failure_0 : decode cX12_failure 0 = .ok (.iload_n 1, 1) := by decide +kernel
theorem dX12_failure_1 : decode cX12_failure 1 = .ok (.iconst 0, 1) := by decide +kernel
theorem dX12_failure_2 : decode cX12_failure 2 = .ok (.iconst 2, 1) := by decide +kernel
theorem dX12_failure_3 : decode cX12_failure 3 = .ok (.invokestatic 128, 3) := by decide +kernel
theorem dX12_failure_6 : decode cX12_failure 6 = .ok (.ifCond .eq 12, 3) := by decide +kernel
theorem dX12_failure_9 : decode cX12_failure 9 = .ok (.aload_n 0, 1) := by decide +kernel
theorem dX12_failure_10 : decode cX12_failure 10 = .ok (.getfield 93, 3) := by decide +kernel
theorem dX12_failure_13 : decode cX12_failure 13 = .ok (.iload_n 1, 1) := by decide +kernel
theorem dX12_failure_14 : decode cX12_failure 14 = .ok (.iaload, 1) := by decide +kernel
theorem dX12_failure_15 : decode cX12_failure 15 = .ok (.goto 5, 3) := by decide +kernel
theorem dX12_failure_18 : decode cX12_failure 18 = .ok (.bipush (-2), 2) := by decide +kernel
theorem dX12_failure_20 : decode cX12_failure 20 = .ok (.ireturn, 1) := by decide +kernel
set_option maxRecDepth 20000 in
theorem ggX12_wordLength_X12_isObject : GoodIn wsX12_wordLength wsX12_isObject := goodIn_r _ [6, 7, 8, 9, 5, 10, 11, 12, 13, 14, 15, 16, 17, 18, 19, 20, 21, 22, 23, 24, 25, 26, 27, 28, 29, 30, 31, 32, 33, 34, 35, 36, 37, 38, 39, 40, 41, 42, 43, 44, 45, 46, 47, 48, 49, 50, 51, 52, 53, 54, 55, 56, 57, 58, 59, 60, 61, 62] (by decide +kernel) (by decide +kernel)
set_option maxRecDepth 20000 in
theorem gX12_wordLength_X12_isObject : GoodIn wsX12_wordLength (wsV RX12 145 RX12 yX12_isObject wsX12_isObject) := goodIn_app (goodIn_of _ (by decide +kernel)) ggX12_wordLength_X12_isObject
theorem dX12_wordLength_0 : decode cX12_wordLength 0 = .ok (.aload_n 0, 1) := by decide +kernel
theorem dX12_wordLength_1 : decode cX12_wordLength 1 = .ok (.iload_n 1, 1) := by decide +kernel
theorem dX12_wordLength_2 : decode cX12_wordLength 2 = .ok (.invokevirtual 145, 3) := by decide +kernel
theorem dX12_wordLength_5 : decode cX12_wordLength 5 = .ok (.ifCond .ne 7, 3) := by decide +kernel
theorem dX12_wordLength_8 : decode cX12_wordLength 8 = .ok (.iconst (-1), 1) := by decide +kernel
theorem dX12_wordLength_9 : decode cX12_wordLength 9 = .ok (.goto 23, 3) := by decide +kernel
theorem dX12_wordLength_12 : decode cX12_wordLength 12 = .ok (.aload_n 0, 1) := by decide +kernel
theorem dX12_wordLength_13 : decode cX12_wordLength 13 = .ok (.getfield 27, 3) := by decide +kernel
theorem dX12_wordLength_16 : decode cX12_wordLength 16 = .ok (.iload_n 1, 1) := by decide +kernel
theorem dX12_wordLength_17 : decode cX12_wordLength 17 = .ok (.iaload, 1) := by decide +kernel
theorem dX12_wordLength_18 : decode cX12_wordLength 18 = .ok (.ifCond .ge 8, 3) := by decide +kernel
theorem dX12_wordLength_21 : decode cX12_wordLength 21 = .ok (.bipush (-2), 2) := by decide +kernel
theorem dX12_wordLength_23 : decode cX12_wordLength 23 = .ok (.goto 9, 3) := by decide +kernel
theorem dX12_wordLength_26 : decode cX12_wordLength 26 = .ok (.aload_n 0, 1) := by decide +kernel
theorem dX12_wordLength_27 : decode cX12_wordLength 27 = .ok (.getfield 27, 3) := by decide +kernel
theorem dX12_wordLength_30 : decode cX12_wordLength 30 = .ok (.iload_n 1, 1) := by decide +kernel
theorem dX12_wordLength_31 : decode cX12_wordLength 31 = .ok (.iaload, 1) := by decide +kernel
theorem dX12_wordLength_32 : decode cX12_wordLength 32 = .ok (.ireturn, 1) := by decide +kernel
set_option maxRecDepth 20000 in
theorem ggX12_letter_X12_isObject : GoodIn wsX12_letter wsX12_isObject := goodIn_r _ [7, 8, 9, 10, 6, 11, 12, 13, 14, 15, 16, 17, 18, 19, 20, 21, 22, 23, 24, 25, 26, 27, 28, 29, 30, 31, 32, 33, 34, 35, 36, 37, 38, 39, 40, 41, 42, 43, 44, 45, 46, 47, 48, 49, 50, 51, 52, 53, 54, 55, 56, 57, 58, 59, 60, 61, 62, 63] (by decide +kernel) (by decide +kernel)
set_option maxRecDepth 20000 in
theorem gX12_letter_X12_isObject : GoodIn wsX12_letter (wsV RX12 145 RX12 yX12_isObject wsX12_isObject) := goodIn_app (goodIn_of _ (by decide +kernel)) ggX12_letter_X12_isObject
set_option maxRecDepth 20000 in
theorem ggX12_letter_X12_isBetween : GoodIn wsX12_letter wsX12_isBetween := goodIn_r _ [11] (by decide +kernel) (by decide +kernel)
set_option maxRecDepth 20000 in
theorem gX12_letter_X12_isBetween : GoodIn wsX12_letter (va_wsS RX12 128 yX12_isBetween wsX12_isBetween) := goodIn_app (goodIn_of _ (by decide +kernel)) ggX12_letter_X12_isBetween
theorem dX12_letter_0 : decode cX12_letter 0 = .ok (.aload_n 0, 1) := by decide +kernel
theorem dX12_letter_1 : decode cX12_letter 1 = .ok (.iload_n 1, 1) := by decide +kernel
theorem dX12_letter_2 : decode cX12_letter 2 = .ok (.invokevirtual 145, 3) := by decide +kernel
theorem dX12_letter_5 : decode cX12_letter 5 = .ok (.ifCond .ne 7, 3) := by decide +kernel
theorem dX12_letter_8 : decode cX12_letter 8 = .ok (.iconst (-1), 1) := by decide +kernel
theorem dX12_letter_9 : decode cX12_letter 9 = .ok (.goto 32, 3) := by decide +kernel
theorem dX12_letter_12 : decode cX12_letter 12 = .ok (.iload_n 2, 1) := by decide +kernel
theorem dX12_letter_13 : decode cX12_letter 13 = .ok (.iconst 0, 1) := by decide +kernel
theorem dX12_letter_14 : decode cX12_letter 14 = .ok (.aload_n 0, 1) := by decide +kernel
theorem dX12_letter_15 : decode cX12_letter 15 = .ok (.getfield 27, 3) := by decide +kernel
theorem dX12_letter_18 : decode cX12_letter 18 = .ok (.iload_n 1, 1) := by decide +kernel
theorem dX12_letter_19 : decode cX12_letter 19 = .ok (.iaload, 1) := by decide +kernel
theorem dX12_letter_20 : decode cX12_letter 20 = .ok (.iconst 1, 1) := by decide +kernel
theorem dX12_letter_21 : decode cX12_letter 21 = .ok (.isub, 1) := by decide +kernel
theorem dX12_letter_22 : decode cX12_letter 22 = .ok (.invokestatic 128, 3) := by decide +kernel
theorem dX12_letter_25 : decode cX12_letter 25 = .ok (.ifCond .eq 14, 3) := by decide +kernel
theorem dX12_letter_28 : decode cX12_letter 28 = .ok (.aload_n 0, 1) := by decide +kernel
theorem dX12_letter_29 : decode cX12_letter 29 = .ok (.getfield 32, 3) := by decide +kernel
theorem dX12_letter_32 : decode cX12_letter 32 = .ok (.iload_n 1, 1) := by decide +kernel
theorem dX12_letter_33 : decode cX12_letter 33 = .ok (.aaload, 1) := by decide +kernel
theorem dX12_letter_34 : decode cX12_letter 34 = .ok (.iload_n 2, 1) := by decide +kernel
theorem dX12_letter_35 : decode cX12_letter 35 = .ok (.iaload, 1) := by decide +kernel
theorem dX12_letter_36 : decode cX12_letter 36 = .ok (.goto 5, 3) := by decide +kernel
theorem dX12_letter_39 : decode cX12_letter 39 = .ok (.bipush (-2), 2) := by decide +kernel
theorem dX12_letter_41 : decode cX12_letter 41 = .ok (.ireturn, 1) := by decide +kernel
set_option maxRecDepth 20000 in
theorem ggX12_isArray_X12_isBetween : GoodIn wsX12_isArray wsX12_isBetween := goodIn_r _ [4] (by decide +kernel) (by decide +kernel)
set_option maxRecDepth 20000 in
theorem gX12_isArray_X12_isBetween : GoodIn wsX12_isArray (va_wsS RX12 128 yX12_isBetween wsX12_isBetween) := goodIn_app (goodIn_of _ (by decide +kernel)) ggX12_isArray_X12_isBetween
theorem dX12_isArray_0 : decode cX12_isArray 0 = .ok (.iload_n 0, 1) := by decide +kernel
theorem dX12_isArray_1 : decode cX12_isArray 1 = .ok (.iconst 0, 1) := by decide +kernel
theorem dX12_isArray_2 : decode cX12_isArray 2 = .ok (.iconst 2, 1) := by decide +kernel
theorem dX12_isArray_3 : decode cX12_isArray 3 = .ok (.invokestatic 128, 3) := by decide +kernel
theorem dX12_isArray_6 : decode cX12_isArray 6 = .ok (.ireturn, 1) := by decide +kernel
set_option maxRecDepth 20000 in
theorem ggX12_newArray_X12_isArray : GoodIn wsX12_newArray wsX12_isArray := goodIn_r _ [6, 7, 8, 5, 9] (by decide +kernel) (by decide +kernel)
set_option maxRecDepth 20000 in
theorem gX12_newArray_X12_isArray : GoodIn wsX12_newArray (va_wsS RX12 296 yX12_isArray wsX12_isArray) := goodIn_app (goodIn_of _ (by decide +kernel)) ggX12_newArray_X12_isArray
theorem dX12_newArray_0 : decode cX12_newArray 0 = .ok (.iload_n 1, 1) := by decide +kernel
theorem dX12_newArray_1 : decode cX12_newArray 1 = .ok (.invokestatic 296, 3) := by decide +kernel
theorem dX12_newArray_4 : decode cX12_newArray 4 = .ok (.ifCond .eq 9, 3) := by decide +kernel
theorem dX12_newArray_7 : decode cX12_newArray 7 = .ok (.iload_n 2, 1) := by decide +kernel
theorem dX12_newArray_8 : decode cX12_newArray 8 = .ok (.bipush 16, 2) := by decide +kernel
theorem dX12_newArray_10 : decode cX12_newArray 10 = .ok (.if_icmp .le 5, 3) := by decide +kernel
theorem dX12_newArray_13 : decode cX12_newArray 13 = .ok (.iconst (-1), 1) := by decide +kernel
theorem dX12_newArray_14 : decode cX12_newArray 14 = .ok (.ireturn, 1) := by decide +kernel
theorem dX12_newArray_15 : decode cX12_newArray 15 = .ok (.iload_n 2, 1) := by decide +kernel
theorem dX12_newArray_16 : decode cX12_newArray 16 = .ok (.ifCond .ge 6, 3) := by decide +kernel
theorem dX12_newArray_19 : decode cX12_newArray 19 = .ok (.bipush (-14), 2) := by decide +kernel
theorem dX12_newArray_21 : decode cX12_newArray 21 = .ok (.ireturn, 1) := by decide +kernel
theorem dX12_newArray_22 : decode cX12_newArray 22 = .ok (.aload_n 0, 1) := by decide +kernel
theorem dX12_newArray_23 : decode cX12_newArray 23 = .ok (.getfield 96, 3) := by decide +kernel
theorem dX12_newArray_26 : decode cX12_newArray 26 = .ok (.iload_n 1, 1) := by decide +kernel
theorem dX12_newArray_27 : decode cX12_newArray 27 = .ok (.iload_n 2, 1) := by decide +kernel
theorem dX12_newArray_28 : decode cX12_newArray 28 = .ok (.iastore, 1) := by decide +kernel
theorem dX12_newArray_29 : decode cX12_newArray 29 = .ok (.iconst 0, 1) := by decide +kernel
theorem dX12_newArray_30 : decode cX12_newArray 30 = .ok (.istore_n 3, 1) := by decide +kernel
theorem dX12_newArray_31 : decode cX12_newArray 31 = .ok (.iload_n 3, 1) := by decide +kernel
theorem dX12_newArray_32 : decode cX12_newArray 32 = .ok (.iload_n 2, 1) := by decide +kernel
theorem dX12_newArray_33 : decode cX12_newArray 33 = .ok (.if_icmp .ge 18, 3) := by decide +kernel
theorem dX12_newArray_36 : decode cX12_newArray 36 = .ok (.aload_n 0, 1) := by decide +kernel
theorem dX12_newArray_37 : decode cX12_newArray 37 = .ok (.getfield 101, 3) := by decide +kernel
theorem dX12_newArray_40 : decode cX12_newArray 40 = .ok (.iload_n 1, 1) := by decide +kernel
theorem dX12_newArray_41 : decode cX12_newArray 41 = .ok (.aaload, 1) := by decide +kernel
theorem dX12_newArray_42 : decode cX12_newArray 42 = .ok (.iload_n 3, 1) := by decide +kernel
theorem dX12_newArray_43 : decode cX12_newArray 43 = .ok (.lconst 0, 1) := by decide +kernel
theorem dX12_newArray_44 : decode cX12_newArray 44 = .ok (.lastore, 1) := by decide +kernel
theorem dX12_newArray_45 : decode cX12_newArray 45 = .ok (.iinc 3 1, 3) := by decide +kernel
theorem dX12_newArray_48 : decode cX12_newArray 48 = .ok (.goto (-17), 3) := by decide +kernel
theorem dX12_newArray_51 : decode cX12_newArray 51 = .ok (.iconst 1, 1) := by decide +kernel
theorem dX12_newArray_52 : decode cX12_newArray 52 = .ok (.ireturn, 1) := by decide +kernel
set_option maxRecDepth 20000 in
theorem ggX12_setElement_X12_isArray : GoodIn wsX12_setElement wsX12_isArray := goodIn_r _ [6, 7, 8, 5, 9] (by decide +kernel) (by decide +kernel)
set_option maxRecDepth 20000 in
theorem gX12_setElement_X12_isArray : GoodIn wsX12_setElement (va_wsS RX12 296 yX12_isArray wsX12_isArray) := goodIn_app (goodIn_of _ (by decide +kernel)) ggX12_setElement_X12_isArray
set_option maxRecDepth 20000 in
theorem ggX12_setElement_X12_isBetween : GoodIn wsX12_setElement wsX12_isBetween := goodIn_r _ [9] (by decide +kernel) (by decide +kernel)
set_option maxRecDepth 20000 in
theorem gX12_setElement_X12_isBetween : GoodIn wsX12_setElement (va_wsS RX12 128 yX12_isBetween wsX12_isBetween) := goodIn_app (goodIn_of _ (by decide +kernel)) ggX12_setElement_X12_isBetween
theorem dX12_setElement_0 : decode cX12_setElement 0 = .ok (.iload_n 1, 1) := by decide +kernel
theorem dX12_setElement_1 : decode cX12_setElement 1 = .ok (.invokestatic 296, 3) := by decide +kernel
theorem dX12_setElement_4 : decode cX12_setElement 4 = .ok (.ifCond .ne 5, 3) := by decide +kernel
theorem dX12_setElement_7 : decode cX12_setElement 7 = .ok (.iconst (-1), 1) := by decide +kernel
theorem dX12_setElement_8 : decode cX12_setElement 8 = .ok (.ireturn, 1) := by decide +kernel
theorem dX12_setElement_9 : decode cX12_setElement 9 = .ok (.aload_n 0, 1) := by decide +kernel
theorem dX12_setElement_10 : decode cX12_setElement 10 = .ok (.getfield 96, 3) := by decide +kernel
theorem dX12_setElement_13 : decode cX12_setElement 13 = .ok (.iload_n 1, 1) := by decide +kernel
theorem dX12_setElement_14 : decode cX12_setElement 14 = .ok (.iaload, 1) := by decide +kernel
theorem dX12_setElement_15 : decode cX12_setElement 15 = .ok (.ifCond .ge 6, 3) := by decide +kernel
theorem dX12_setElement_18 : decode cX12_setElement 18 = .ok (.bipush (-11), 2) := by decide +kernel
theorem dX12_setElement_20 : decode cX12_setElement 20 = .ok (.ireturn, 1) := by decide +kernel
theorem dX12_setElement_21 : decode cX12_setElement 21 = .ok (.iload_n 2, 1) := by decide +kernel
theorem dX12_setElement_22 : decode cX12_setElement 22 = .ok (.iconst 0, 1) := by decide +kernel
theorem dX12_setElement_23 : decode cX12_setElement 23 = .ok (.aload_n 0, 1) := by decide +kernel
theorem dX12_setElement_24 : decode cX12_setElement 24 = .ok (.getfield 96, 3) := by decide +kernel
theorem dX12_setElement_27 : decode cX12_setElement 27 = .ok (.iload_n 1, 1) := by decide +kernel
theorem dX12_setElement_28 : decode cX12_setElement 28 = .ok (.iaload, 1) := by decide +kernel
theorem dX12_setElement_29 : decode cX12_setElement 29 = .ok (.iconst 1, 1) := by decide +kernel
theorem dX12_setElement_30 : decode cX12_setElement 30 = .ok (.isub, 1) := by decide +kernel
theorem dX12_setElement_31 : decode cX12_setElement 31 = .ok (.invokestatic 128, 3) := by decide +kernel
theorem dX12_setElement_34 : decode cX12_setElement 34 = .ok (.ifCond .ne 6, 3) := by decide +kernel
theorem dX12_setElement_37 : decode cX12_setElement 37 = .ok (.bipush (-13), 2) := by decide +kernel
theorem dX12_setElement_39 : decode cX12_setElement 39 = .ok (.ireturn, 1) := by decide +kernel
theorem dX12_setElement_40 : decode cX12_setElement 40 = .ok (.aload_n 0, 1) := by decide +kernel
theorem dX12_setElement_41 : decode cX12_setElement 41 = .ok (.getfield 101, 3) := by decide +kernel
theorem dX12_setElement_44 : decode cX12_setElement 44 = .ok (.iload_n 1, 1) := by decide +kernel
theorem dX12_setElement_45 : decode cX12_setElement 45 = .ok (.aaload, 1) := by decide +kernel
theorem dX12_setElement_46 : decode cX12_setElement 46 = .ok (.iload_n 2, 1) := by decide +kernel
theorem dX12_setElement_47 : decode cX12_setElement 47 = .ok (.lload_n 3, 1) := by decide +kernel
theorem dX12_setElement_48 : decode cX12_setElement 48 = .ok (.lastore, 1) := by decide +kernel
theorem dX12_setElement_49 : decode cX12_setElement 49 = .ok (.iconst 1, 1) := by decide +kernel
theorem dX12_setElement_50 : decode cX12_setElement 50 = .ok (.ireturn, 1) := by decide +kernel
set_option maxRecDepth 20000 in
theorem ggX12_element_X12_isArray : GoodIn wsX12_element wsX12_isArray := goodIn_r _ [7, 8, 9, 6, 10] (by decide +kernel) (by decide +kernel)
set_option maxRecDepth 20000 in
theorem gX12_element_X12_isArray : GoodIn wsX12_element (va_wsS RX12 296 yX12_isArray wsX12_isArray) := goodIn_app (goodIn_of _ (by decide +kernel)) ggX12_element_X12_isArray
set_option maxRecDepth 20000 in
theorem ggX12_element_X12_isBetween : GoodIn wsX12_element wsX12_isBetween := goodIn_r _ [10] (by decide +kernel) (by decide +kernel)
set_option maxRecDepth 20000 in
theorem gX12_element_X12_isBetween : GoodIn wsX12_element (va_wsS RX12 128 yX12_isBetween wsX12_isBetween) := goodIn_app (goodIn_of _ (by decide +kernel)) ggX12_element_X12_isBetween
theorem dX12_element_0 : decode cX12_element 0 = .ok (.iload_n 1, 1) := by decide +kernel
theorem dX12_element_1 : decode cX12_element 1 = .ok (.invokestatic 296, 3) := by decide +kernel
theorem dX12_element_4 : decode cX12_element 4 = .ok (.ifCond .eq 30, 3) := by decide +kernel
theorem dX12_element_7 : decode cX12_element 7 = .ok (.iload_n 2, 1) := by decide +kernel
theorem dX12_element_8 : decode cX12_element 8 = .ok (.iconst 0, 1) := by decide +kernel
theorem dX12_element_9 : decode cX12_element 9 = .ok (.aload_n 0, 1) := by decide +kernel
theorem dX12_element_10 : decode cX12_element 10 = .ok (.getfield 96, 3) := by decide +kernel
theorem dX12_element_13 : decode cX12_element 13 = .ok (.iload_n 1, 1) := by decide +kernel
theorem dX12_element_14 : decode cX12_element 14 = .ok (.iaload, 1) := by decide +kernel
theorem dX12_element_15 : decode cX12_element 15 = .ok (.iconst 1, 1) := by decide +kernel
theorem dX12_element_16 : decode cX12_element 16 = .ok (.isub, 1) := by decide +kernel
theorem dX12_element_17 : decode cX12_element 17 = .ok (.invokestatic 128, 3) := by decide +kernel
theorem dX12_element_20 : decode cX12_element 20 = .ok (.ifCond .eq 14, 3) := by decide +kernel
theorem dX12_element_23 : decode cX12_element 23 = .ok (.aload_n 0, 1) := by decide +kernel
theorem dX12_element_24 : decode cX12_element 24 = .ok (.getfield 101, 3) := by decide +kernel
theorem dX12_element_27 : decode cX12_element 27 = .ok (.iload_n 1, 1) := by decide +kernel
theorem dX12_element_28 : decode cX12_element 28 = .ok (.aaload, 1) := by decide +kernel
theorem dX12_element_29 : decode cX12_element 29 = .ok (.iload_n 2, 1) := by decide +kernel
theorem dX12_element_30 : decode cX12_element 30 = .ok (.laload, 1) := by decide +kernel
theorem dX12_element_31 : decode cX12_element 31 = .ok (.goto 6, 3) := by decide +kernel
theorem dX12_element_34 : decode cX12_element 34 = .ok (.ldc2_w 301, 3) := by decide +kernel
theorem dX12_element_37 : decode cX12_element 37 = .ok (.lreturn, 1) := by decide +kernel
set_option maxRecDepth 20000 in
theorem ggX12_saveReachable_X12_isArray : GoodIn wsX12_saveReachable wsX12_isArray := goodIn_r _ [7, 8, 9, 6, 10] (by decide +kernel) (by decide +kernel)
set_option maxRecDepth 20000 in
theorem gX12_saveReachable_X12_isArray : GoodIn wsX12_saveReachable (va_wsS RX12 296 yX12_isArray wsX12_isArray) := goodIn_app (goodIn_of _ (by decide +kernel)) ggX12_saveReachable_X12_isArray
set_option maxRecDepth 20000 in
theorem ggX12_saveReachable_X12_findDistances : GoodIn wsX12_saveReachable wsX12_findDistances := goodIn_r _ [14, 2, 15, 16, 17, 18, 23, 24, 25, 26, 27, 28, 29, 30, 31, 32, 33, 34, 35, 36, 37, 38, 39, 40, 41, 42, 43, 44, 45, 46, 47, 48, 49, 50, 51, 52, 53, 54, 55, 56, 57, 58, 59, 60, 61, 62, 63, 64, 65, 66, 67, 68, 69, 70, 71, 72, 73, 74] (by decide +kernel) (by decide +kernel)
set_option maxRecDepth 20000 in
theorem gX12_saveReachable_X12_findDistances : GoodIn wsX12_saveReachable (wsV RX12 151 RX12 yX12_findDistances wsX12_findDistances) := goodIn_app (goodIn_of _ (by decide +kernel)) ggX12_saveReachable_X12_findDistances
set_option maxRecDepth 20000 in
theorem ggX12_saveReachable_X12_reachedFrom : GoodIn wsX12_saveReachable wsX12_reachedFrom := goodIn_r _ [22, 2, 15, 23, 24, 25, 26, 27, 28, 29, 30, 31, 32, 33, 34, 35, 36, 37, 38, 39, 40, 41, 42, 43, 44, 45, 46, 47, 48, 49, 50, 51, 52, 53, 54, 55, 56, 57, 58, 59, 60, 61, 62, 63, 64, 65, 66, 67, 68, 69, 70, 71, 72, 73, 74] (by decide +kernel) (by decide +kernel)
set_option maxRecDepth 20000 in
theorem gX12_saveReachable_X12_reachedFrom : GoodIn wsX12_saveReachable (wsV RX12 154 RX12 yX12_reachedFrom wsX12_reachedFrom) := goodIn_app (goodIn_of _ (by decide +kernel)) ggX12_saveReachable_X12_reachedFrom
theorem dX12_saveReachable_0 : decode cX12_saveReachable 0 = .ok (.iload_n 1, 1) := by decide +kernel
theorem dX12_saveReachable_1 : decode cX12_saveReachable 1 = .ok (.invokestatic 296, 3) := by decide +kernel
theorem dX12_saveReachable_4 : decode cX12_saveReachable 4 = .ok (.ifCond .ne 5, 3) := by decide +kernel
theorem dX12_saveReachable_7 : decode cX12_saveReachable 7 = .ok (.iconst (-1), 1) := by decide +kernel
theorem dX12_saveReachable_8 : decode cX12_saveReachable 8 = .ok (.ireturn, 1) := by decide +kernel
theorem dX12_saveReachable_9 : decode cX12_saveReachable 9 = .ok (.aload_n 0, 1) := by decide +kernel
theorem dX12_saveReachable_10 : decode cX12_saveReachable 10 = .ok (.invokevirtual 151, 3) := by decide +kernel
theorem dX12_saveReachable_13 : decode cX12_saveReachable 13 = .ok (.aload_n 0, 1) := by decide +kernel
theorem dX12_saveReachable_14 : decode cX12_saveReachable 14 = .ok (.getfield 96, 3) := by decide +kernel
theorem dX12_saveReachable_17 : decode cX12_saveReachable 17 = .ok (.iload_n 1, 1) := by decide +kernel
theorem dX12_saveReachable_18 : decode cX12_saveReachable 18 = .ok (.aload_n 0, 1) := by decide +kernel
theorem dX12_saveReachable_19 : decode cX12_saveReachable 19 = .ok (.getfield 132, 3) := by decide +kernel
theorem dX12_saveReachable_22 : decode cX12_saveReachable 22 = .ok (.iastore, 1) := by decide +kernel
theorem dX12_saveReachable_23 : decode cX12_saveReachable 23 = .ok (.iconst 0, 1) := by decide +kernel
theorem dX12_saveReachable_24 : decode cX12_saveReachable 24 = .ok (.istore_n 2, 1) := by decide +kernel
theorem dX12_saveReachable_25 : decode cX12_saveReachable 25 = .ok (.iload_n 2, 1) := by decide +kernel
theorem dX12_saveReachable_26 : decode cX12_saveReachable 26 = .ok (.aload_n 0, 1) := by decide +kernel
theorem dX12_saveReachable_27 : decode cX12_saveReachable 27 = .ok (.getfield 132, 3) := by decide +kernel
theorem dX12_saveReachable_30 : decode cX12_saveReachable 30 = .ok (.if_icmp .ge 23, 3) := by decide +kernel
theorem dX12_saveReachable_33 : decode cX12_saveReachable 33 = .ok (.aload_n 0, 1) := by decide +kernel
theorem dX12_saveReachable_34 : decode cX12_saveReachable 34 = .ok (.getfield 101, 3) := by decide +kernel
theorem dX12_saveReachable_37 : decode cX12_saveReachable 37 = .ok (.iload_n 1, 1) := by decide +kernel
theorem dX12_saveReachable_38 : decode cX12_saveReachable 38 = .ok (.aaload, 1) := by decide +kernel
theorem dX12_saveReachable_39 : decode cX12_saveReachable 39 = .ok (.iload_n 2, 1) := by decide +kernel
