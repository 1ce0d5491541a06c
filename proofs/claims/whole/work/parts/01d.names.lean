set_option maxRecDepth 20000 in
theorem gX11_isDecreasing_X7_has_n208 : GoodIn wsX11_isDecreasing (wsX7_has) := ggX11_isDecreasing_X7_has
set_option maxRecDepth 20000 in
theorem ggX11_isDecreasing_X7_decreases : GoodIn wsX11_isDecreasing wsX7_decreases := goodIn_r _ [16, 9, 10, 17, 18, 5, 19, 20, 21, 22, 23, 24, 25, 26, 27, 28, 29, 30, 31, 32, 49, 50, 51, 52, 53, 54, 55, 56, 57, 58, 59] (by decide +kernel) (by decide +kernel)
set_option maxRecDepth 20000 in
theorem gX11_isDecreasing_X7_decreases_n214 : GoodIn wsX11_isDecreasing (wsX7_decreases) := ggX11_isDecreasing_X7_decreases
theorem dX11_isDecreasing_0 : decode cX11_isDecreasing 0 = .ok (.aload_n 0, 1) := by decide +kernel
theorem dX11_isDecreasing_1 : decode cX11_isDecreasing 1 = .ok (.getfield 46, 3) := by decide +kernel
theorem dX11_isDecreasing_4 : decode cX11_isDecreasing 4 = .ok (.aload_n 0, 1) := by decide +kernel
theorem dX11_isDecreasing_5 : decode cX11_isDecreasing 5 = .ok (.getfield 19, 3) := by decide +kernel
theorem dX11_isDecreasing_8 : decode cX11_isDecreasing 8 = .ok (.invokevirtual 195, 3) := by decide +kernel
theorem dX11_isDecreasing_11 : decode cX11_isDecreasing 11 = .ok (.aload_n 0, 1) := by decide +kernel
theorem dX11_isDecreasing_12 : decode cX11_isDecreasing 12 = .ok (.getfield 46, 3) := by decide +kernel
theorem dX11_isDecreasing_15 : decode cX11_isDecreasing 15 = .ok (.iload_n 1, 1) := by decide +kernel
theorem dX11_isDecreasing_16 : decode cX11_isDecreasing 16 = .ok (.invokevirtual 208, 3) := by decide +kernel
theorem dX11_isDecreasing_19 : decode cX11_isDecreasing 19 = .ok (.ifCond .ne 5, 3) := by decide +kernel
theorem dX11_isDecreasing_22 : decode cX11_isDecreasing 22 = .ok (.iconst (-1), 1) := by decide +kernel
theorem dX11_isDecreasing_23 : decode cX11_isDecreasing 23 = .ok (.ireturn, 1) := by decide +kernel
theorem dX11_isDecreasing_24 : decode cX11_isDecreasing 24 = .ok (.aload_n 0, 1) := by decide +kernel
theorem dX11_isDecreasing_25 : decode cX11_isDecreasing 25 = .ok (.getfield 46, 3) := by decide +kernel
theorem dX11_isDecreasing_28 : decode cX11_isDecreasing 28 = .ok (.iload_n 1, 1) := by decide +kernel
theorem dX11_isDecreasing_29 : decode cX11_isDecreasing 29 = .ok (.aload_n 0, 1) := by decide +kernel
theorem dX11_isDecreasing_30 : decode cX11_isDecreasing 30 = .ok (.getfield 19, 3) := by decide +kernel
theorem dX11_isDecreasing_33 : decode cX11_isDecreasing 33 = .ok (.aload_n 0, 1) := by decide +kernel
theorem dX11_isDecreasing_34 : decode cX11_isDecreasing 34 = .ok (.getfield 12, 3) := by decide +kernel
theorem dX11_isDecreasing_37 : decode cX11_isDecreasing 37 = .ok (.invokevirtual 214, 3) := by decide +kernel
theorem dX11_isDecreasing_40 : decode cX11_isDecreasing 40 = .ok (.ifCond .eq 7, 3) := by decide +kernel
theorem dX11_isDecreasing_43 : decode cX11_isDecreasing 43 = .ok (.iconst 1, 1) := by decide +kernel
theorem dX11_isDecreasing_44 : decode cX11_isDecreasing 44 = .ok (.goto 4, 3) := by decide +kernel
theorem dX11_isDecreasing_47 : decode cX11_isDecreasing 47 = .ok (.iconst 0, 1) := by decide +kernel
theorem dX11_isDecreasing_48 : decode cX11_isDecreasing 48 = .ok (.ireturn, 1) := by decide +kernel
set_option maxRecDepth 20000 in
theorem ggX11_valley_X11_findValley : GoodIn wsX11_valley wsX11_findValley := goodIn_r _ [5, 6, 7, 8, 9, 10, 11, 12, 13, 14, 15, 16, 17, 18, 19, 20, 21, 22, 23, 24, 25, 26, 27, 28, 29, 30, 31, 32, 33, 34, 35, 36, 37, 38, 39, 40, 41, 42, 43, 44, 45, 46, 47, 48, 49, 50, 51, 52, 53, 54, 55, 56, 4, 57, 58, 59, 60, 61, 62, 63, 64, 65, 66, 67, 68, 69, 70, 71, 72, 73, 74, 75, 76, 77, 78, 79, 80, 81, 82, 83, 84, 85, 86, 87, 88, 89, 90, 91, 92, 93, 94, 95, 96, 97, 98, 99, 100, 101] (by decide +kernel) (by decide +kernel)
set_option maxRecDepth 20000 in
theorem gX11_valley_X11_findValley : GoodIn wsX11_valley (wsV RX11 218 RX11 yX11_findValley wsX11_findValley) := goodIn_app (goodIn_of _ (by decide +kernel)) ggX11_valley_X11_findValley
theorem dX11_valley_0 : decode cX11_valley 0 = .ok (.aload_n 0, 1) := by decide +kernel
theorem dX11_valley_1 : decode cX11_valley 1 = .ok (.iload_n 1, 1) := by decide +kernel
theorem dX11_valley_2 : decode cX11_valley 2 = .ok (.invokevirtual 218, 3) := by decide +kernel
theorem dX11_valley_5 : decode cX11_valley 5 = .ok (.ireturn, 1) := by decide +kernel
set_option maxRecDepth 20000 in
theorem ggX11_joinLength_X11_isSide : GoodIn wsX11_joinLength wsX11_isSide := goodIn_r _ [4] (by decide +kernel) (by decide +kernel)
set_option maxRecDepth 20000 in
theorem gX11_joinLength_X11_isSide : GoodIn wsX11_joinLength (va_wsS RX11 211 yX11_isSide wsX11_isSide) := goodIn_app (goodIn_of _ (by decide +kernel)) ggX11_joinLength_X11_isSide
set_option maxRecDepth 20000 in
theorem ggX11_joinLength_X11_findValley : GoodIn wsX11_joinLength wsX11_findValley := goodIn_r _ [8, 9, 10, 11, 12, 13, 14, 15, 16, 17, 18, 19, 20, 21, 22, 23, 24, 25, 26, 27, 28, 29, 30, 31, 32, 33, 34, 35, 36, 37, 38, 39, 40, 41, 42, 43, 44, 45, 46, 47, 48, 49, 50, 51, 52, 53, 54, 55, 56, 57, 58, 59, 3, 60, 61, 62, 63, 64, 65, 66, 67, 72, 73, 74, 75, 76, 77, 78, 79, 80, 81, 82, 83, 84, 85, 86, 87, 88, 89, 90, 91, 92, 93, 94, 95, 96, 97, 98, 99, 100, 101, 102, 103, 104, 105, 106, 107, 108] (by decide +kernel) (by decide +kernel)
set_option maxRecDepth 20000 in
theorem gX11_joinLength_X11_findValley : GoodIn wsX11_joinLength (wsV RX11 218 RX11 yX11_findValley wsX11_findValley) := goodIn_app (goodIn_of _ (by decide +kernel)) ggX11_joinLength_X11_findValley
set_option maxRecDepth 20000 in
theorem ggX11_joinLength_X11_pathsOf : GoodIn wsX11_joinLength wsX11_pathsOf := goodIn_r _ [71, 11, 13, 72, 73, 74, 75, 76, 77, 78, 79, 80, 81, 82, 83, 84, 85, 86, 87] (by decide +kernel) (by decide +kernel)
set_option maxRecDepth 20000 in
theorem gX11_joinLength_X11_pathsOf : GoodIn wsX11_joinLength (wsV RX11 221 RX11 yX11_pathsOf wsX11_pathsOf) := goodIn_app (goodIn_of _ (by decide +kernel)) ggX11_joinLength_X11_pathsOf
set_option maxRecDepth 20000 in
theorem ggX11_joinLength_X9_lengthTo : GoodIn wsX11_joinLength wsX9_lengthTo := goodIn_r _ [66, 44, 32, 67, 61, 62, 26, 63, 97, 98, 99, 100, 101, 102, 103, 104, 105, 106] (by decide +kernel) (by decide +kernel)
set_option maxRecDepth 20000 in
theorem gX11_joinLength_X9_lengthTo_n225 : GoodIn wsX11_joinLength (wsX9_lengthTo) := ggX11_joinLength_X9_lengthTo
theorem dX11_joinLength_0 : decode cX11_joinLength 0 = .ok (.iload_n 2, 1) := by decide +kernel
theorem dX11_joinLength_1 : decode cX11_joinLength 1 = .ok (.invokestatic 211, 3) := by decide +kernel
theorem dX11_joinLength_4 : decode cX11_joinLength 4 = .ok (.ifCond .ne 5, 3) := by decide +kernel
theorem dX11_joinLength_7 : decode cX11_joinLength 7 = .ok (.iconst (-1), 1) := by decide +kernel
theorem dX11_joinLength_8 : decode cX11_joinLength 8 = .ok (.ireturn, 1) := by decide +kernel
theorem dX11_joinLength_9 : decode cX11_joinLength 9 = .ok (.aload_n 0, 1) := by decide +kernel
theorem dX11_joinLength_10 : decode cX11_joinLength 10 = .ok (.iload_n 1, 1) := by decide +kernel
theorem dX11_joinLength_11 : decode cX11_joinLength 11 = .ok (.invokevirtual 218, 3) := by decide +kernel
theorem dX11_joinLength_14 : decode cX11_joinLength 14 = .ok (.istore_n 3, 1) := by decide +kernel
theorem dX11_joinLength_15 : decode cX11_joinLength 15 = .ok (.iload_n 3, 1) := by decide +kernel
theorem dX11_joinLength_16 : decode cX11_joinLength 16 = .ok (.ifCond .ge 7, 3) := by decide +kernel
theorem dX11_joinLength_19 : decode cX11_joinLength 19 = .ok (.iload_n 3, 1) := by decide +kernel
theorem dX11_joinLength_20 : decode cX11_joinLength 20 = .ok (.goto 12, 3) := by decide +kernel
theorem dX11_joinLength_23 : decode cX11_joinLength 23 = .ok (.aload_n 0, 1) := by decide +kernel
theorem dX11_joinLength_24 : decode cX11_joinLength 24 = .ok (.iload_n 2, 1) := by decide +kernel
theorem dX11_joinLength_25 : decode cX11_joinLength 25 = .ok (.invokevirtual 221, 3) := by decide +kernel
theorem dX11_joinLength_28 : decode cX11_joinLength 28 = .ok (.iload_n 3, 1) := by decide +kernel
theorem dX11_joinLength_29 : decode cX11_joinLength 29 = .ok (.invokevirtual 225, 3) := by decide +kernel
theorem dX11_joinLength_32 : decode cX11_joinLength 32 = .ok (.ireturn, 1) := by decide +kernel
set_option maxRecDepth 20000 in
theorem ggX11_joinStep_X11_isSide : GoodIn wsX11_joinStep wsX11_isSide := goodIn_r _ [4] (by decide +kernel) (by decide +kernel)
set_option maxRecDepth 20000 in
theorem gX11_joinStep_X11_isSide : GoodIn wsX11_joinStep (va_wsS RX11 211 yX11_isSide wsX11_isSide) := goodIn_app (goodIn_of _ (by decide +kernel)) ggX11_joinStep_X11_isSide
set_option maxRecDepth 20000 in
theorem ggX11_joinStep_X11_findValley : GoodIn wsX11_joinStep wsX11_findValley := goodIn_r _ [8, 9, 10, 11, 12, 13, 14, 15, 16, 17, 18, 19, 20, 21, 22, 23, 24, 25, 26, 27, 28, 29, 30, 31, 32, 33, 34, 35, 36, 37, 38, 39, 40, 41, 42, 43, 44, 45, 46, 47, 48, 49, 50, 51, 52, 53, 54, 55, 56, 57, 58, 59, 3, 60, 61, 62, 63, 64, 65, 66, 67, 76, 77, 78, 79, 80, 81, 82, 83, 84, 85, 86, 87, 88, 89, 90, 91, 92, 93, 94, 95, 96, 97, 98, 99, 100, 101, 102, 103, 104, 105, 106, 107, 108, 109, 110, 111, 112] (by decide +kernel) (by decide +kernel)
set_option maxRecDepth 20000 in
theorem gX11_joinStep_X11_findValley : GoodIn wsX11_joinStep (wsV RX11 218 RX11 yX11_findValley wsX11_findValley) := goodIn_app (goodIn_of _ (by decide +kernel)) ggX11_joinStep_X11_findValley
set_option maxRecDepth 20000 in
theorem ggX11_joinStep_X11_pathsOf : GoodIn wsX11_joinStep wsX11_pathsOf := goodIn_r _ [71, 11, 13, 76, 77, 78, 79, 80, 81, 82, 83, 84, 85, 86, 87, 88, 89, 90, 91] (by decide +kernel) (by decide +kernel)
set_option maxRecDepth 20000 in
theorem gX11_joinStep_X11_pathsOf : GoodIn wsX11_joinStep (wsV RX11 221 RX11 yX11_pathsOf wsX11_pathsOf) := goodIn_app (goodIn_of _ (by decide +kernel)) ggX11_joinStep_X11_pathsOf
set_option maxRecDepth 20000 in
theorem ggX11_joinStep_X9_stepTo : GoodIn wsX11_joinStep wsX9_stepTo := goodIn_r _ [74, 32, 45, 46, 75, 64, 65, 26, 66, 44, 67, 61, 62, 63, 101, 102, 103, 104, 105, 106, 107, 108, 109, 110] (by decide +kernel) (by decide +kernel)
set_option maxRecDepth 20000 in
theorem gX11_joinStep_X9_stepTo_n228 : GoodIn wsX11_joinStep (wsX9_stepTo) := ggX11_joinStep_X9_stepTo
theorem dX11_joinStep_0 : decode cX11_joinStep 0 = .ok (.iload_n 2, 1) := by decide +kernel
theorem dX11_joinStep_1 : decode cX11_joinStep 1 = .ok (.invokestatic 211, 3) := by decide +kernel
theorem dX11_joinStep_4 : decode cX11_joinStep 4 = .ok (.ifCond .ne 5, 3) := by decide +kernel
theorem dX11_joinStep_7 : decode cX11_joinStep 7 = .ok (.iconst (-1), 1) := by decide +kernel
theorem dX11_joinStep_8 : decode cX11_joinStep 8 = .ok (.ireturn, 1) := by decide +kernel
theorem dX11_joinStep_9 : decode cX11_joinStep 9 = .ok (.aload_n 0, 1) := by decide +kernel
theorem dX11_joinStep_10 : decode cX11_joinStep 10 = .ok (.iload_n 1, 1) := by decide +kernel
theorem dX11_joinStep_11 : decode cX11_joinStep 11 = .ok (.invokevirtual 218, 3) := by decide +kernel
theorem dX11_joinStep_14 : decode cX11_joinStep 14 = .ok (.istore 4, 2) := by decide +kernel
theorem dX11_joinStep_16 : decode cX11_joinStep 16 = .ok (.iload 4, 2) := by decide +kernel
theorem dX11_joinStep_18 : decode cX11_joinStep 18 = .ok (.ifCond .ge 8, 3) := by decide +kernel
theorem dX11_joinStep_21 : decode cX11_joinStep 21 = .ok (.iload 4, 2) := by decide +kernel
theorem dX11_joinStep_23 : decode cX11_joinStep 23 = .ok (.goto 14, 3) := by decide +kernel
theorem dX11_joinStep_26 : decode cX11_joinStep 26 = .ok (.aload_n 0, 1) := by decide +kernel
theorem dX11_joinStep_27 : decode cX11_joinStep 27 = .ok (.iload_n 2, 1) := by decide +kernel
theorem dX11_joinStep_28 : decode cX11_joinStep 28 = .ok (.invokevirtual 221, 3) := by decide +kernel
theorem dX11_joinStep_31 : decode cX11_joinStep 31 = .ok (.iload 4, 2) := by decide +kernel
theorem dX11_joinStep_33 : decode cX11_joinStep 33 = .ok (.iload_n 3, 1) := by decide +kernel
theorem dX11_joinStep_34 : decode cX11_joinStep 34 = .ok (.invokevirtual 228, 3) := by decide +kernel
theorem dX11_joinStep_37 : decode cX11_joinStep 37 = .ok (.ireturn, 1) := by decide +kernel
set_option maxRecDepth 20000 in
theorem ggX11_decreasingCount_X7_collect : GoodIn wsX11_decreasingCount wsX7_collect := goodIn_r _ [7, 8, 9, 10, 46, 47, 48, 49, 50, 51, 52, 53, 54] (by decide +kernel) (by decide +kernel)
set_option maxRecDepth 20000 in
theorem gX11_decreasingCount_X7_collect_n195 : GoodIn wsX11_decreasingCount (wsX7_collect) := ggX11_decreasingCount_X7_collect
set_option maxRecDepth 20000 in
theorem ggX11_decreasingCount_X7_decreases : GoodIn wsX11_decreasingCount wsX7_decreases := goodIn_r _ [13, 9, 10, 14, 15, 5, 16, 17, 18, 19, 20, 21, 22, 23, 24, 25, 26, 27, 28, 29, 46, 47, 48, 49, 50, 51, 52, 53, 54, 55, 56] (by decide +kernel) (by decide +kernel)
set_option maxRecDepth 20000 in
theorem gX11_decreasingCount_X7_decreases_n214 : GoodIn wsX11_decreasingCount (wsX7_decreases) := ggX11_decreasingCount_X7_decreases
theorem dX11_decreasingCount_0 : decode cX11_decreasingCount 0 = .ok (.aload_n 0, 1) := by decide +kernel
theorem dX11_decreasingCount_1 : decode cX11_decreasingCount 1 = .ok (.getfield 46, 3) := by decide +kernel
theorem dX11_decreasingCount_4 : decode cX11_decreasingCount 4 = .ok (.aload_n 0, 1) := by decide +kernel
theorem dX11_decreasingCount_5 : decode cX11_decreasingCount 5 = .ok (.getfield 19, 3) := by decide +kernel
theorem dX11_decreasingCount_8 : decode cX11_decreasingCount 8 = .ok (.invokevirtual 195, 3) := by decide +kernel
theorem dX11_decreasingCount_11 : decode cX11_decreasingCount 11 = .ok (.iconst 0, 1) := by decide +kernel
theorem dX11_decreasingCount_12 : decode cX11_decreasingCount 12 = .ok (.istore_n 1, 1) := by decide +kernel
theorem dX11_decreasingCount_13 : decode cX11_decreasingCount 13 = .ok (.iconst 0, 1) := by decide +kernel
theorem dX11_decreasingCount_14 : decode cX11_decreasingCount 14 = .ok (.istore_n 2, 1) := by decide +kernel
theorem dX11_decreasingCount_15 : decode cX11_decreasingCount 15 = .ok (.iload_n 2, 1) := by decide +kernel
theorem dX11_decreasingCount_16 : decode cX11_decreasingCount 16 = .ok (.aload_n 0, 1) := by decide +kernel
theorem dX11_decreasingCount_17 : decode cX11_decreasingCount 17 = .ok (.getfield 46, 3) := by decide +kernel
theorem dX11_decreasingCount_20 : decode cX11_decreasingCount 20 = .ok (.getfield 199, 3) := by decide +kernel
theorem dX11_decreasingCount_23 : decode cX11_decreasingCount 23 = .ok (.if_icmp .ge 31, 3) := by decide +kernel
theorem dX11_decreasingCount_26 : decode cX11_decreasingCount 26 = .ok (.aload_n 0, 1) := by decide +kernel
theorem dX11_decreasingCount_27 : decode cX11_decreasingCount 27 = .ok (.getfield 46, 3) := by decide +kernel
theorem dX11_decreasingCount_30 : decode cX11_decreasingCount 30 = .ok (.iload_n 2, 1) := by decide +kernel
theorem dX11_decreasingCount_31 : decode cX11_decreasingCount 31 = .ok (.aload_n 0, 1) := by decide +kernel
theorem dX11_decreasingCount_32 : decode cX11_decreasingCount 32 = .ok (.getfield 19, 3) := by decide +kernel
theorem dX11_decreasingCount_35 : decode cX11_decreasingCount 35 = .ok (.aload_n 0, 1) := by decide +kernel
theorem dX11_decreasingCount_36 : decode cX11_decreasingCount 36 = .ok (.getfield 12, 3) := by decide +kernel
theorem dX11_decreasingCount_39 : decode cX11_decreasingCount 39 = .ok (.invokevirtual 214, 3) := by decide +kernel
theorem dX11_decreasingCount_42 : decode cX11_decreasingCount 42 = .ok (.ifCond .eq 6, 3) := by decide +kernel
theorem dX11_decreasingCount_45 : decode cX11_decreasingCount 45 = .ok (.iinc 1 1, 3) := by decide +kernel
theorem dX11_decreasingCount_48 : decode cX11_decreasingCount 48 = .ok (.iinc 2 1, 3) := by decide +kernel
theorem dX11_decreasingCount_51 : decode cX11_decreasingCount 51 = .ok (.goto (-36), 3) := by decide +kernel
theorem dX11_decreasingCount_54 : decode cX11_decreasingCount 54 = .ok (.iload_n 1, 1) := by decide +kernel
theorem dX11_decreasingCount_55 : decode cX11_decreasingCount 55 = .ok (.ireturn, 1) := by decide +kernel
set_option maxRecDepth 20000 in
theorem ggX11_firstFailure_X7_collect : GoodIn wsX11_firstFailure wsX7_collect := goodIn_r _ [7, 8, 9, 10, 50, 51, 52, 53, 54, 55, 56, 57, 58] (by decide +kernel) (by decide +kernel)
set_option maxRecDepth 20000 in
theorem gX11_firstFailure_X7_collect_n195 : GoodIn wsX11_firstFailure (wsX7_collect) := ggX11_firstFailure_X7_collect
set_option maxRecDepth 20000 in
theorem ggX11_firstFailure_X7_firstFailing : GoodIn wsX11_firstFailure wsX7_firstFailing := goodIn_r _ [13, 8, 14, 15, 16, 5, 17, 9, 10, 18, 19, 20, 21, 22, 23, 24, 25, 26, 27, 28, 29, 30, 31, 32, 33, 50, 51, 52, 53, 54, 55, 56, 57, 58, 59, 60] (by decide +kernel) (by decide +kernel)
set_option maxRecDepth 20000 in
theorem gX11_firstFailure_X7_firstFailing_n231 : GoodIn wsX11_firstFailure (wsX7_firstFailing) := ggX11_firstFailure_X7_firstFailing
theorem dX11_firstFailure_0 : decode cX11_firstFailure 0 = .ok (.aload_n 0, 1) := by decide +kernel
theorem dX11_firstFailure_1 : decode cX11_firstFailure 1 = .ok (.getfield 46, 3) := by decide +kernel
theorem dX11_firstFailure_4 : decode cX11_firstFailure 4 = .ok (.aload_n 0, 1) := by decide +kernel
theorem dX11_firstFailure_5 : decode cX11_firstFailure 5 = .ok (.getfield 19, 3) := by decide +kernel
theorem dX11_firstFailure_8 : decode cX11_firstFailure 8 = .ok (.invokevirtual 195, 3) := by decide +kernel
theorem dX11_firstFailure_11 : decode cX11_firstFailure 11 = .ok (.aload_n 0, 1) := by decide +kernel
theorem dX11_firstFailure_12 : decode cX11_firstFailure 12 = .ok (.getfield 46, 3) := by decide +kernel
theorem dX11_firstFailure_15 : decode cX11_firstFailure 15 = .ok (.aload_n 0, 1) := by decide +kernel
theorem dX11_firstFailure_16 : decode cX11_firstFailure 16 = .ok (.getfield 19, 3) := by decide +kernel
theorem dX11_firstFailure_19 : decode cX11_firstFailure 19 = .ok (.aload_n 0, 1) := by decide +kernel
theorem dX11_firstFailure_20 : decode cX11_firstFailure 20 = .ok (.getfield 12, 3) := by decide +kernel
theorem dX11_firstFailure_23 : decode cX11_firstFailure 23 = .ok (.invokevirtual 231, 3) := by decide +kernel
theorem dX11_firstFailure_26 : decode cX11_firstFailure 26 = .ok (.ireturn, 1) := by decide +kernel
set_option maxRecDepth 20000 in
theorem ggX11_draw_X11_findValley : GoodIn wsX11_draw wsX11_findValley := goodIn_r _ [9, 2, 10, 3, 11, 4, 12, 13, 14, 15, 16, 17, 18, 19, 20, 21, 22, 23, 24, 25, 26, 27, 28, 29, 30, 31, 32, 33, 34, 35, 36, 37, 38, 39, 40, 41, 42, 43, 44, 45, 46, 47, 48, 49, 50, 51, 52, 53, 54, 55, 56, 57, 8, 58, 59, 60, 61, 62, 63, 64, 65, 91, 92, 93, 94, 95, 96, 97, 98, 99, 100, 101, 102, 103, 104, 105, 106, 107, 108, 109, 112, 113, 114, 115, 116, 117, 118, 119, 120, 121, 122, 123, 124, 125, 126, 127, 128, 129] (by decide +kernel) (by decide +kernel)
set_option maxRecDepth 20000 in
theorem gX11_draw_X11_findValley : GoodIn wsX11_draw (wsV RX11 218 RX11 yX11_findValley wsX11_findValley) := goodIn_app (goodIn_of _ (by decide +kernel)) ggX11_draw_X11_findValley
set_option maxRecDepth 20000 in
theorem ggX11_draw_X6_clear : GoodIn wsX11_draw wsX6_clear := goodIn_r _ [69, 70, 110, 111] (by decide +kernel) (by decide +kernel)
set_option maxRecDepth 20000 in
theorem gX11_draw_X6_clear_n235 : GoodIn wsX11_draw (wsX6_clear) := ggX11_draw_X6_clear
set_option maxRecDepth 20000 in
theorem ggX11_draw_X11_writePeak : GoodIn wsX11_draw wsX11_writePeak := goodIn_r _ [74, 1, 10, 75, 67, 76, 77, 78, 79, 80, 81, 70, 82, 91, 92, 93, 94, 95, 96, 97, 98, 99, 100, 101, 102, 103, 104, 105, 106, 112, 113, 114, 115, 116, 117, 110, 111] (by decide +kernel) (by decide +kernel)
set_option maxRecDepth 20000 in
theorem gX11_draw_X11_writePeak : GoodIn wsX11_draw (wsV RX11 236 RX11 yX11_writePeak wsX11_writePeak) := goodIn_app (goodIn_of _ (by decide +kernel)) ggX11_draw_X11_writePeak
set_option maxRecDepth 20000 in
theorem ggX11_draw_X6_putSign : GoodIn wsX11_draw wsX6_putSign := goodIn_r _ [81, 70, 82, 110, 111] (by decide +kernel) (by decide +kernel)
set_option maxRecDepth 20000 in
theorem gX11_draw_X6_putSign_n239 : GoodIn wsX11_draw (wsX6_putSign) := ggX11_draw_X6_putSign
set_option maxRecDepth 20000 in
theorem ggX11_draw_X11_writePath : GoodIn wsX11_draw wsX11_writePath := goodIn_r _ [86, 1, 62, 24, 63, 64, 42, 30, 65, 59, 60, 61, 79, 67, 80, 81, 70, 82, 87, 88, 89, 43, 44, 90, 75, 76, 77, 78, 91, 92, 93, 94, 95, 96, 97, 98, 99, 100, 101, 102, 103, 104, 105, 106, 118, 119, 120, 121, 122, 123, 124, 125, 126, 127, 110, 111] (by decide +kernel) (by decide +kernel)
set_option maxRecDepth 20000 in
theorem gX11_draw_X11_writePath : GoodIn wsX11_draw (wsV RX11 243 RX11 yX11_writePath wsX11_writePath) := goodIn_app (goodIn_of _ (by decide +kernel)) ggX11_draw_X11_writePath
theorem dX11_draw_0 : decode cX11_draw 0 = .ok (.aload_n 0, 1) := by decide +kernel
theorem dX11_draw_1 : decode cX11_draw 1 = .ok (.iload_n 1, 1) := by decide +kernel
theorem dX11_draw_2 : decode cX11_draw 2 = .ok (.invokevirtual 218, 3) := by decide +kernel
theorem dX11_draw_5 : decode cX11_draw 5 = .ok (.istore_n 2, 1) := by decide +kernel
theorem dX11_draw_6 : decode cX11_draw 6 = .ok (.iload_n 2, 1) := by decide +kernel
theorem dX11_draw_7 : decode cX11_draw 7 = .ok (.iconst (-1), 1) := by decide +kernel
theorem dX11_draw_8 : decode cX11_draw 8 = .ok (.if_icmp .ne 5, 3) := by decide +kernel
theorem dX11_draw_11 : decode cX11_draw 11 = .ok (.iconst (-1), 1) := by decide +kernel
theorem dX11_draw_12 : decode cX11_draw 12 = .ok (.ireturn, 1) := by decide +kernel
theorem dX11_draw_13 : decode cX11_draw 13 = .ok (.aload_n 0, 1) := by decide +kernel
theorem dX11_draw_14 : decode cX11_draw 14 = .ok (.getfield 63, 3) := by decide +kernel
theorem dX11_draw_17 : decode cX11_draw 17 = .ok (.invokevirtual 235, 3) := by decide +kernel
theorem dX11_draw_20 : decode cX11_draw 20 = .ok (.aload_n 0, 1) := by decide +kernel
theorem dX11_draw_21 : decode cX11_draw 21 = .ok (.aload_n 0, 1) := by decide +kernel
theorem dX11_draw_22 : decode cX11_draw 22 = .ok (.getfield 46, 3) := by decide +kernel
theorem dX11_draw_25 : decode cX11_draw 25 = .ok (.getfield 202, 3) := by decide +kernel
theorem dX11_draw_28 : decode cX11_draw 28 = .ok (.iload_n 1, 1) := by decide +kernel
theorem dX11_draw_29 : decode cX11_draw 29 = .ok (.iaload, 1) := by decide +kernel
theorem dX11_draw_30 : decode cX11_draw 30 = .ok (.aload_n 0, 1) := by decide +kernel
theorem dX11_draw_31 : decode cX11_draw 31 = .ok (.getfield 46, 3) := by decide +kernel
theorem dX11_draw_34 : decode cX11_draw 34 = .ok (.getfield 205, 3) := by decide +kernel
theorem dX11_draw_37 : decode cX11_draw 37 = .ok (.iload_n 1, 1) := by decide +kernel
theorem dX11_draw_38 : decode cX11_draw 38 = .ok (.iaload, 1) := by decide +kernel
theorem dX11_draw_39 : decode cX11_draw 39 = .ok (.invokevirtual 236, 3) := by decide +kernel
theorem dX11_draw_42 : decode cX11_draw 42 = .ok (.iload_n 2, 1) := by decide +kernel
theorem dX11_draw_43 : decode cX11_draw 43 = .ok (.bipush (-2), 2) := by decide +kernel
theorem dX11_draw_45 : decode cX11_draw 45 = .ok (.if_icmp .ne 15, 3) := by decide +kernel
theorem dX11_draw_48 : decode cX11_draw 48 = .ok (.aload_n 0, 1) := by decide +kernel
theorem dX11_draw_49 : decode cX11_draw 49 = .ok (.getfield 63, 3) := by decide +kernel
theorem dX11_draw_52 : decode cX11_draw 52 = .ok (.bipush 33, 2) := by decide +kernel
theorem dX11_draw_54 : decode cX11_draw 54 = .ok (.invokevirtual 239, 3) := by decide +kernel
theorem dX11_draw_57 : decode cX11_draw 57 = .ok (.goto 39, 3) := by decide +kernel
theorem dX11_draw_60 : decode cX11_draw 60 = .ok (.aload_n 0, 1) := by decide +kernel
theorem dX11_draw_61 : decode cX11_draw 61 = .ok (.getfield 63, 3) := by decide +kernel
theorem dX11_draw_64 : decode cX11_draw 64 = .ok (.bipush 58, 2) := by decide +kernel
theorem dX11_draw_66 : decode cX11_draw 66 = .ok (.invokevirtual 239, 3) := by decide +kernel
theorem dX11_draw_69 : decode cX11_draw 69 = .ok (.aload_n 0, 1) := by decide +kernel
theorem dX11_draw_70 : decode cX11_draw 70 = .ok (.aload_n 0, 1) := by decide +kernel
theorem dX11_draw_71 : decode cX11_draw 71 = .ok (.getfield 53, 3) := by decide +kernel
theorem dX11_draw_74 : decode cX11_draw 74 = .ok (.iload_n 2, 1) := by decide +kernel
theorem dX11_draw_75 : decode cX11_draw 75 = .ok (.invokevirtual 243, 3) := by decide +kernel
theorem dX11_draw_78 : decode cX11_draw 78 = .ok (.aload_n 0, 1) := by decide +kernel
theorem dX11_draw_79 : decode cX11_draw 79 = .ok (.getfield 63, 3) := by decide +kernel
theorem dX11_draw_82 : decode cX11_draw 82 = .ok (.bipush 44, 2) := by decide +kernel
theorem dX11_draw_84 : decode cX11_draw 84 = .ok (.invokevirtual 239, 3) := by decide +kernel
theorem dX11_draw_87 : decode cX11_draw 87 = .ok (.aload_n 0, 1) := by decide +kernel
theorem dX11_draw_88 : decode cX11_draw 88 = .ok (.aload_n 0, 1) := by decide +kernel
theorem dX11_draw_89 : decode cX11_draw 89 = .ok (.getfield 57, 3) := by decide +kernel
theorem dX11_draw_92 : decode cX11_draw 92 = .ok (.iload_n 2, 1) := by decide +kernel
theorem dX11_draw_93 : decode cX11_draw 93 = .ok (.invokevirtual 243, 3) := by decide +kernel
theorem dX11_draw_96 : decode cX11_draw 96 = .ok (.aload_n 0, 1) := by decide +kernel
theorem dX11_draw_97 : decode cX11_draw 97 = .ok (.getfield 63, 3) := by decide +kernel
theorem dX11_draw_100 : decode cX11_draw 100 = .ok (.getfield 247, 3) := by decide +kernel
theorem dX11_draw_103 : decode cX11_draw 103 = .ok (.ireturn, 1) := by decide +kernel
theorem dX11_output_0 : decode cX11_output 0 = .ok (.iload_n 1, 1) := by decide +kernel
theorem dX11_output_1 : decode cX11_output 1 = .ok (.ifCond .lt 26, 3) := by decide +kernel
theorem dX11_output_4 : decode cX11_output 4 = .ok (.iload_n 1, 1) := by decide +kernel
theorem dX11_output_5 : decode cX11_output 5 = .ok (.aload_n 0, 1) := by decide +kernel
theorem dX11_output_6 : decode cX11_output 6 = .ok (.getfield 63, 3) := by decide +kernel
theorem dX11_output_9 : decode cX11_output 9 = .ok (.getfield 247, 3) := by decide +kernel
theorem dX11_output_12 : decode cX11_output 12 = .ok (.if_icmp .ge 15, 3) := by decide +kernel
theorem dX11_output_15 : decode cX11_output 15 = .ok (.aload_n 0, 1) := by decide +kernel
theorem dX11_output_16 : decode cX11_output 16 = .ok (.getfield 63, 3) := by decide +kernel
theorem dX11_output_19 : decode cX11_output 19 = .ok (.getfield 250, 3) := by decide +kernel
theorem dX11_output_22 : decode cX11_output 22 = .ok (.iload_n 1, 1) := by decide +kernel
theorem dX11_output_23 : decode cX11_output 23 = .ok (.caload, 1) := by decide +kernel
theorem dX11_output_24 : decode cX11_output 24 = .ok (.goto 5, 3) := by decide +kernel
theorem dX11_output_27 : decode cX11_output 27 = .ok (.bipush (-2), 2) := by decide +kernel
theorem dX11_output_29 : decode cX11_output 29 = .ok (.ireturn, 1) := by decide +kernel
set_option maxRecDepth 20000 in
theorem ggX11_findLabelling_X11_searchError : GoodIn wsX11_findLabelling wsX11_searchError := goodIn_r _ [7, 2, 64, 65, 66, 67, 68, 69, 70, 71, 72, 73, 74, 75, 76, 77, 78, 79, 80, 81, 82, 83, 84, 85] (by decide +kernel) (by decide +kernel)
set_option maxRecDepth 20000 in
theorem gX11_findLabelling_X11_searchError : GoodIn wsX11_findLabelling (wsV RX11 254 RX11 yX11_searchError wsX11_searchError) := goodIn_app (goodIn_of _ (by decide +kernel)) ggX11_findLabelling_X11_searchError
set_option maxRecDepth 20000 in
theorem ggX11_findLabelling_X4_findFirst : GoodIn wsX11_findLabelling wsX4_findFirst := goodIn_r _ [11, 12, 13, 14, 15, 16, 17, 18, 19, 20, 21, 22, 23, 9, 24, 25, 26, 27, 28, 29, 30, 31, 32, 33, 34, 35, 36, 37, 38, 39, 40, 41, 42, 43, 44, 45, 46, 47, 48, 49, 50, 51, 52, 53, 54, 55, 56, 57, 58, 59, 60, 61, 62, 63, 86, 87, 88, 89, 90, 80, 81, 82, 83, 84, 85, 91, 92, 93, 94, 95] (by decide +kernel) (by decide +kernel)
set_option maxRecDepth 20000 in
theorem gX11_findLabelling_X4_findFirst_n257 : GoodIn wsX11_findLabelling (wsX4_findFirst) := ggX11_findLabelling_X4_findFirst
theorem dX11_findLabelling_0 : decode cX11_findLabelling 0 = .ok (.aload_n 0, 1) := by decide +kernel
theorem dX11_findLabelling_1 : decode cX11_findLabelling 1 = .ok (.iload_n 1, 1) := by decide +kernel
theorem dX11_findLabelling_2 : decode cX11_findLabelling 2 = .ok (.invokevirtual 254, 3) := by decide +kernel
theorem dX11_findLabelling_5 : decode cX11_findLabelling 5 = .ok (.istore_n 2, 1) := by decide +kernel
theorem dX11_findLabelling_6 : decode cX11_findLabelling 6 = .ok (.iload_n 2, 1) := by decide +kernel
theorem dX11_findLabelling_7 : decode cX11_findLabelling 7 = .ok (.ifCond .eq 5, 3) := by decide +kernel
theorem dX11_findLabelling_10 : decode cX11_findLabelling 10 = .ok (.iload_n 2, 1) := by decide +kernel
theorem dX11_findLabelling_11 : decode cX11_findLabelling 11 = .ok (.ireturn, 1) := by decide +kernel
theorem dX11_findLabelling_12 : decode cX11_findLabelling 12 = .ok (.aload_n 0, 1) := by decide +kernel
theorem dX11_findLabelling_13 : decode cX11_findLabelling 13 = .ok (.getfield 70, 3) := by decide +kernel
theorem dX11_findLabelling_16 : decode cX11_findLabelling 16 = .ok (.aload_n 0, 1) := by decide +kernel
theorem dX11_findLabelling_17 : decode cX11_findLabelling 17 = .ok (.getfield 19, 3) := by decide +kernel
theorem dX11_findLabelling_20 : decode cX11_findLabelling 20 = .ok (.iload_n 1, 1) := by decide +kernel
theorem dX11_findLabelling_21 : decode cX11_findLabelling 21 = .ok (.invokevirtual 257, 3) := by decide +kernel
theorem dX11_findLabelling_24 : decode cX11_findLabelling 24 = .ok (.ifCond .eq 7, 3) := by decide +kernel
theorem dX11_findLabelling_27 : decode cX11_findLabelling 27 = .ok (.iconst 1, 1) := by decide +kernel
theorem dX11_findLabelling_28 : decode cX11_findLabelling 28 = .ok (.goto 4, 3) := by decide +kernel
theorem dX11_findLabelling_31 : decode cX11_findLabelling 31 = .ok (.iconst 0, 1) := by decide +kernel
theorem dX11_findLabelling_32 : decode cX11_findLabelling 32 = .ok (.ireturn, 1) := by decide +kernel
set_option maxRecDepth 20000 in
theorem ggX11_labellingCount_X11_searchError : GoodIn wsX11_labellingCount wsX11_searchError := goodIn_r _ [7, 2, 61, 62, 63, 64, 65, 66, 67, 68, 69, 70, 71, 72, 73, 74, 75, 76, 77, 78, 79, 80, 81, 82] (by decide +kernel) (by decide +kernel)
set_option maxRecDepth 20000 in
theorem gX11_labellingCount_X11_searchError : GoodIn wsX11_labellingCount (wsV RX11 254 RX11 yX11_searchError wsX11_searchError) := goodIn_app (goodIn_of _ (by decide +kernel)) ggX11_labellingCount_X11_searchError
set_option maxRecDepth 20000 in
theorem ggX11_labellingCount_X4_countAll : GoodIn wsX11_labellingCount wsX4_countAll := goodIn_r _ [11, 12, 13, 14, 15, 16, 17, 9, 18, 19, 20, 21, 22, 23, 24, 25, 26, 27, 28, 29, 30, 31, 32, 33, 34, 35, 36, 37, 38, 39, 40, 41, 42, 43, 44, 45, 46, 47, 48, 49, 50, 51, 52, 53, 54, 55, 56, 57, 58, 59, 60, 83, 84, 85, 86, 87, 77, 78, 79, 80, 81, 82, 88, 89, 90, 91, 92] (by decide +kernel) (by decide +kernel)
set_option maxRecDepth 20000 in
theorem gX11_labellingCount_X4_countAll_n261 : GoodIn wsX11_labellingCount (wsX4_countAll) := ggX11_labellingCount_X4_countAll
theorem dX11_labellingCount_0 : decode cX11_labellingCount 0 = .ok (.aload_n 0, 1) := by decide +kernel
theorem dX11_labellingCount_1 : decode cX11_labellingCount 1 = .ok (.iload_n 1, 1) := by decide +kernel
theorem dX11_labellingCount_2 : decode cX11_labellingCount 2 = .ok (.invokevirtual 254, 3) := by decide +kernel
theorem dX11_labellingCount_5 : decode cX11_labellingCount 5 = .ok (.istore_n 2, 1) := by decide +kernel
theorem dX11_labellingCount_6 : decode cX11_labellingCount 6 = .ok (.iload_n 2, 1) := by decide +kernel
theorem dX11_labellingCount_7 : decode cX11_labellingCount 7 = .ok (.ifCond .eq 7, 3) := by decide +kernel
theorem dX11_labellingCount_10 : decode cX11_labellingCount 10 = .ok (.iload_n 2, 1) := by decide +kernel
theorem dX11_labellingCount_11 : decode cX11_labellingCount 11 = .ok (.goto 15, 3) := by decide +kernel
theorem dX11_labellingCount_14 : decode cX11_labellingCount 14 = .ok (.aload_n 0, 1) := by decide +kernel
theorem dX11_labellingCount_15 : decode cX11_labellingCount 15 = .ok (.getfield 70, 3) := by decide +kernel
theorem dX11_labellingCount_18 : decode cX11_labellingCount 18 = .ok (.aload_n 0, 1) := by decide +kernel
theorem dX11_labellingCount_19 : decode cX11_labellingCount 19 = .ok (.getfield 19, 3) := by decide +kernel
theorem dX11_labellingCount_22 : decode cX11_labellingCount 22 = .ok (.iload_n 1, 1) := by decide +kernel
theorem dX11_labellingCount_23 : decode cX11_labellingCount 23 = .ok (.invokevirtual 261, 3) := by decide +kernel
theorem dX11_labellingCount_26 : decode cX11_labellingCount 26 = .ok (.ireturn, 1) := by decide +kernel
theorem dX11_foundLabel_0 : decode cX11_foundLabel 0 = .ok (.iload_n 1, 1) := by decide +kernel
theorem dX11_foundLabel_1 : decode cX11_foundLabel 1 = .ok (.ifCond .lt 26, 3) := by decide +kernel
theorem dX11_foundLabel_4 : decode cX11_foundLabel 4 = .ok (.iload_n 1, 1) := by decide +kernel
theorem dX11_foundLabel_5 : decode cX11_foundLabel 5 = .ok (.aload_n 0, 1) := by decide +kernel
theorem dX11_foundLabel_6 : decode cX11_foundLabel 6 = .ok (.getfield 70, 3) := by decide +kernel
theorem dX11_foundLabel_9 : decode cX11_foundLabel 9 = .ok (.getfield 265, 3) := by decide +kernel
theorem dX11_foundLabel_12 : decode cX11_foundLabel 12 = .ok (.if_icmp .ge 15, 3) := by decide +kernel
theorem dX11_foundLabel_15 : decode cX11_foundLabel 15 = .ok (.aload_n 0, 1) := by decide +kernel
theorem dX11_foundLabel_16 : decode cX11_foundLabel 16 = .ok (.getfield 70, 3) := by decide +kernel
theorem dX11_foundLabel_19 : decode cX11_foundLabel 19 = .ok (.getfield 268, 3) := by decide +kernel
theorem dX11_foundLabel_22 : decode cX11_foundLabel 22 = .ok (.iload_n 1, 1) := by decide +kernel
theorem dX11_foundLabel_23 : decode cX11_foundLabel 23 = .ok (.iaload, 1) := by decide +kernel
theorem dX11_foundLabel_24 : decode cX11_foundLabel 24 = .ok (.goto 5, 3) := by decide +kernel
theorem dX11_foundLabel_27 : decode cX11_foundLabel 27 = .ok (.bipush (-2), 2) := by decide +kernel
theorem dX11_foundLabel_29 : decode cX11_foundLabel 29 = .ok (.ireturn, 1) := by decide +kernel
set_option maxRecDepth 20000 in
theorem ggX11_applyLabelling_X2_makeNatural : GoodIn wsX11_applyLabelling wsX2_makeNatural := goodIn_r _ [7, 8, 9, 37, 38] (by decide +kernel) (by decide +kernel)
set_option maxRecDepth 20000 in
theorem gX11_applyLabelling_X2_makeNatural_n121 : GoodIn wsX11_applyLabelling (wsX2_makeNatural) := ggX11_applyLabelling_X2_makeNatural
theorem dX11_applyLabelling_0 : decode cX11_applyLabelling 0 = .ok (.aload_n 0, 1) := by decide +kernel
theorem dX11_applyLabelling_1 : decode cX11_applyLabelling 1 = .ok (.getfield 70, 3) := by decide +kernel
theorem dX11_applyLabelling_4 : decode cX11_applyLabelling 4 = .ok (.getfield 265, 3) := by decide +kernel
theorem dX11_applyLabelling_7 : decode cX11_applyLabelling 7 = .ok (.aload_n 0, 1) := by decide +kernel
theorem dX11_applyLabelling_8 : decode cX11_applyLabelling 8 = .ok (.getfield 19, 3) := by decide +kernel
theorem dX11_applyLabelling_11 : decode cX11_applyLabelling 11 = .ok (.getfield 142, 3) := by decide +kernel
theorem dX11_applyLabelling_14 : decode cX11_applyLabelling 14 = .ok (.if_icmp .eq 6, 3) := by decide +kernel
theorem dX11_applyLabelling_17 : decode cX11_applyLabelling 17 = .ok (.bipush (-2), 2) := by decide +kernel
theorem dX11_applyLabelling_19 : decode cX11_applyLabelling 19 = .ok (.ireturn, 1) := by decide +kernel
theorem dX11_applyLabelling_20 : decode cX11_applyLabelling 20 = .ok (.iconst 0, 1) := by decide +kernel
theorem dX11_applyLabelling_21 : decode cX11_applyLabelling 21 = .ok (.istore_n 1, 1) := by decide +kernel
theorem dX11_applyLabelling_22 : decode cX11_applyLabelling 22 = .ok (.iconst 0, 1) := by decide +kernel
theorem dX11_applyLabelling_23 : decode cX11_applyLabelling 23 = .ok (.istore_n 2, 1) := by decide +kernel
theorem dX11_applyLabelling_24 : decode cX11_applyLabelling 24 = .ok (.iload_n 2, 1) := by decide +kernel
theorem dX11_applyLabelling_25 : decode cX11_applyLabelling 25 = .ok (.aload_n 0, 1) := by decide +kernel
theorem dX11_applyLabelling_26 : decode cX11_applyLabelling 26 = .ok (.getfield 70, 3) := by decide +kernel
theorem dX11_applyLabelling_29 : decode cX11_applyLabelling 29 = .ok (.getfield 265, 3) := by decide +kernel
theorem dX11_applyLabelling_32 : decode cX11_applyLabelling 32 = .ok (.if_icmp .ge 51, 3) := by decide +kernel
theorem dX11_applyLabelling_35 : decode cX11_applyLabelling 35 = .ok (.aload_n 0, 1) := by decide +kernel
theorem dX11_applyLabelling_36 : decode cX11_applyLabelling 36 = .ok (.getfield 19, 3) := by decide +kernel
theorem dX11_applyLabelling_39 : decode cX11_applyLabelling 39 = .ok (.getfield 146, 3) := by decide +kernel
theorem dX11_applyLabelling_42 : decode cX11_applyLabelling 42 = .ok (.iload_n 2, 1) := by decide +kernel
theorem dX11_applyLabelling_43 : decode cX11_applyLabelling 43 = .ok (.iaload, 1) := by decide +kernel
theorem dX11_applyLabelling_44 : decode cX11_applyLabelling 44 = .ok (.aload_n 0, 1) := by decide +kernel
theorem dX11_applyLabelling_45 : decode cX11_applyLabelling 45 = .ok (.getfield 70, 3) := by decide +kernel
theorem dX11_applyLabelling_48 : decode cX11_applyLabelling 48 = .ok (.getfield 268, 3) := by decide +kernel
theorem dX11_applyLabelling_51 : decode cX11_applyLabelling 51 = .ok (.iload_n 2, 1) := by decide +kernel
theorem dX11_applyLabelling_52 : decode cX11_applyLabelling 52 = .ok (.iaload, 1) := by decide +kernel
theorem dX11_applyLabelling_53 : decode cX11_applyLabelling 53 = .ok (.if_icmp .eq 24, 3) := by decide +kernel
theorem dX11_applyLabelling_56 : decode cX11_applyLabelling 56 = .ok (.aload_n 0, 1) := by decide +kernel
theorem dX11_applyLabelling_57 : decode cX11_applyLabelling 57 = .ok (.getfield 19, 3) := by decide +kernel
theorem dX11_applyLabelling_60 : decode cX11_applyLabelling 60 = .ok (.getfield 146, 3) := by decide +kernel
theorem dX11_applyLabelling_63 : decode cX11_applyLabelling 63 = .ok (.iload_n 2, 1) := by decide +kernel
theorem dX11_applyLabelling_64 : decode cX11_applyLabelling 64 = .ok (.aload_n 0, 1) := by decide +kernel
theorem dX11_applyLabelling_65 : decode cX11_applyLabelling 65 = .ok (.getfield 70, 3) := by decide +kernel
theorem dX11_applyLabelling_68 : decode cX11_applyLabelling 68 = .ok (.getfield 268, 3) := by decide +kernel
theorem dX11_applyLabelling_71 : decode cX11_applyLabelling 71 = .ok (.iload_n 2, 1) := by decide +kernel
theorem dX11_applyLabelling_72 : decode cX11_applyLabelling 72 = .ok (.iaload, 1) := by decide +kernel
theorem dX11_applyLabelling_73 : decode cX11_applyLabelling 73 = .ok (.iastore, 1) := by decide +kernel
theorem dX11_applyLabelling_74 : decode cX11_applyLabelling 74 = .ok (.iinc 1 1, 3) := by decide +kernel
theorem dX11_applyLabelling_77 : decode cX11_applyLabelling 77 = .ok (.iinc 2 1, 3) := by decide +kernel
theorem dX11_applyLabelling_80 : decode cX11_applyLabelling 80 = .ok (.goto (-56), 3) := by decide +kernel
theorem dX11_applyLabelling_83 : decode cX11_applyLabelling 83 = .ok (.aload_n 0, 1) := by decide +kernel
theorem dX11_applyLabelling_84 : decode cX11_applyLabelling 84 = .ok (.getfield 12, 3) := by decide +kernel
theorem dX11_applyLabelling_87 : decode cX11_applyLabelling 87 = .ok (.invokevirtual 121, 3) := by decide +kernel
theorem dX11_applyLabelling_90 : decode cX11_applyLabelling 90 = .ok (.iload_n 1, 1) := by decide +kernel
theorem dX11_applyLabelling_91 : decode cX11_applyLabelling 91 = .ok (.ireturn, 1) := by decide +kernel
set_option maxRecDepth 20000 in
theorem ggX11_feed_X1_append : GoodIn wsX11_feed wsX1_append := goodIn_r _ [5, 6, 7, 24, 25] (by decide +kernel) (by decide +kernel)
set_option maxRecDepth 20000 in
theorem gX11_feed_X1_append_n272 : GoodIn wsX11_feed (wsX1_append) := ggX11_feed_X1_append
theorem dX11_feed_0 : decode cX11_feed 0 = .ok (.iload_n 1, 1) := by decide +kernel
theorem dX11_feed_1 : decode cX11_feed 1 = .ok (.iconst 1, 1) := by decide +kernel
theorem dX11_feed_2 : decode cX11_feed 2 = .ok (.if_icmp .lt 9, 3) := by decide +kernel
theorem dX11_feed_5 : decode cX11_feed 5 = .ok (.iload_n 1, 1) := by decide +kernel
theorem dX11_feed_6 : decode cX11_feed 6 = .ok (.bipush 127, 2) := by decide +kernel
theorem dX11_feed_8 : decode cX11_feed 8 = .ok (.if_icmp .le 5, 3) := by decide +kernel
theorem dX11_feed_11 : decode cX11_feed 11 = .ok (.iconst (-1), 1) := by decide +kernel
theorem dX11_feed_12 : decode cX11_feed 12 = .ok (.ireturn, 1) := by decide +kernel
theorem dX11_feed_13 : decode cX11_feed 13 = .ok (.aload_n 0, 1) := by decide +kernel
theorem dX11_feed_14 : decode cX11_feed 14 = .ok (.getfield 77, 3) := by decide +kernel
theorem dX11_feed_17 : decode cX11_feed 17 = .ok (.getfield 271, 3) := by decide +kernel
theorem dX11_feed_20 : decode cX11_feed 20 = .ok (.bipush 20, 2) := by decide +kernel
theorem dX11_feed_22 : decode cX11_feed 22 = .ok (.if_icmp .lt 6, 3) := by decide +kernel
theorem dX11_feed_25 : decode cX11_feed 25 = .ok (.bipush (-3), 2) := by decide +kernel
theorem dX11_feed_27 : decode cX11_feed 27 = .ok (.ireturn, 1) := by decide +kernel
theorem dX11_feed_28 : decode cX11_feed 28 = .ok (.aload_n 0, 1) := by decide +kernel
theorem dX11_feed_29 : decode cX11_feed 29 = .ok (.getfield 77, 3) := by decide +kernel
theorem dX11_feed_32 : decode cX11_feed 32 = .ok (.iload_n 1, 1) := by decide +kernel
theorem dX11_feed_33 : decode cX11_feed 33 = .ok (.invokevirtual 272, 3) := by decide +kernel
theorem dX11_feed_36 : decode cX11_feed 36 = .ok (.aload_n 0, 1) := by decide +kernel
theorem dX11_feed_37 : decode cX11_feed 37 = .ok (.getfield 77, 3) := by decide +kernel
theorem dX11_feed_40 : decode cX11_feed 40 = .ok (.getfield 271, 3) := by decide +kernel
theorem dX11_feed_43 : decode cX11_feed 43 = .ok (.ireturn, 1) := by decide +kernel
set_option maxRecDepth 20000 in
theorem ggX11_addRule_X1_wordAt : GoodIn wsX11_addRule wsX1_wordAt := goodIn_r _ [6, 7, 8, 9, 4, 10, 11, 12, 13, 14, 15, 47, 48] (by decide +kernel) (by decide +kernel)
set_option maxRecDepth 20000 in
theorem gX11_addRule_X1_wordAt_n276 : GoodIn wsX11_addRule (wsX1_wordAt) := ggX11_addRule_X1_wordAt
set_option maxRecDepth 20000 in
theorem ggX11_addRule_X10_lengthOf : GoodIn wsX11_addRule wsX10_lengthOf := goodIn_r _ [17] (by decide +kernel) (by decide +kernel)
set_option maxRecDepth 20000 in
theorem gX11_addRule_X10_lengthOf_n279 : GoodIn wsX11_addRule (wsX10_lengthOf) := ggX11_addRule_X10_lengthOf
set_option maxRecDepth 20000 in
theorem ggX11_addRule_X1_byteAt : GoodIn wsX11_addRule wsX1_byteAt := goodIn_r _ [10, 11, 12, 47, 48] (by decide +kernel) (by decide +kernel)
set_option maxRecDepth 20000 in
theorem gX11_addRule_X1_byteAt_n284 : GoodIn wsX11_addRule (wsX1_byteAt) := ggX11_addRule_X1_byteAt
set_option maxRecDepth 20000 in
theorem ggX11_addRule_X1_clear : GoodIn wsX11_addRule wsX1_clear := goodIn_r _ [20, 11, 47, 48] (by decide +kernel) (by decide +kernel)
set_option maxRecDepth 20000 in
theorem gX11_addRule_X1_clear_n287 : GoodIn wsX11_addRule (wsX1_clear) := ggX11_addRule_X1_clear
set_option maxRecDepth 20000 in
theorem ggX11_addRule_X8_append : GoodIn wsX11_addRule wsX8_append := goodIn_r _ [24, 25, 26, 27, 44, 45, 46] (by decide +kernel) (by decide +kernel)
set_option maxRecDepth 20000 in
theorem gX11_addRule_X8_append_n288 : GoodIn wsX11_addRule (wsX8_append) := ggX11_addRule_X8_append
theorem dX11_addRule_0 : decode cX11_addRule 0 = .ok (.aload_n 0, 1) := by decide +kernel
theorem dX11_addRule_1 : decode cX11_addRule 1 = .ok (.getfield 26, 3) := by decide +kernel
theorem dX11_addRule_4 : decode cX11_addRule 4 = .ok (.getfield 275, 3) := by decide +kernel
theorem dX11_addRule_7 : decode cX11_addRule 7 = .ok (.bipush 6, 2) := by decide +kernel
theorem dX11_addRule_9 : decode cX11_addRule 9 = .ok (.if_icmp .lt 6, 3) := by decide +kernel
theorem dX11_addRule_12 : decode cX11_addRule 12 = .ok (.bipush (-3), 2) := by decide +kernel
theorem dX11_addRule_14 : decode cX11_addRule 14 = .ok (.ireturn, 1) := by decide +kernel
theorem dX11_addRule_15 : decode cX11_addRule 15 = .ok (.aload_n 0, 1) := by decide +kernel
theorem dX11_addRule_16 : decode cX11_addRule 16 = .ok (.getfield 77, 3) := by decide +kernel
theorem dX11_addRule_19 : decode cX11_addRule 19 = .ok (.iconst 0, 1) := by decide +kernel
theorem dX11_addRule_20 : decode cX11_addRule 20 = .ok (.iconst 4, 1) := by decide +kernel
theorem dX11_addRule_21 : decode cX11_addRule 21 = .ok (.invokevirtual 276, 3) := by decide +kernel
theorem dX11_addRule_24 : decode cX11_addRule 24 = .ok (.istore_n 1, 1) := by decide +kernel
theorem dX11_addRule_25 : decode cX11_addRule 25 = .ok (.iload_n 1, 1) := by decide +kernel
theorem dX11_addRule_26 : decode cX11_addRule 26 = .ok (.invokestatic 279, 3) := by decide +kernel
theorem dX11_addRule_29 : decode cX11_addRule 29 = .ok (.istore_n 2, 1) := by decide +kernel
theorem dX11_addRule_30 : decode cX11_addRule 30 = .ok (.aload_n 0, 1) := by decide +kernel
theorem dX11_addRule_31 : decode cX11_addRule 31 = .ok (.getfield 77, 3) := by decide +kernel
theorem dX11_addRule_34 : decode cX11_addRule 34 = .ok (.iload_n 2, 1) := by decide +kernel
theorem dX11_addRule_35 : decode cX11_addRule 35 = .ok (.iconst 1, 1) := by decide +kernel
theorem dX11_addRule_36 : decode cX11_addRule 36 = .ok (.iadd, 1) := by decide +kernel
theorem dX11_addRule_37 : decode cX11_addRule 37 = .ok (.iconst 4, 1) := by decide +kernel
theorem dX11_addRule_38 : decode cX11_addRule 38 = .ok (.invokevirtual 276, 3) := by decide +kernel
theorem dX11_addRule_41 : decode cX11_addRule 41 = .ok (.istore_n 3, 1) := by decide +kernel
theorem dX11_addRule_42 : decode cX11_addRule 42 = .ok (.iload_n 2, 1) := by decide +kernel
theorem dX11_addRule_43 : decode cX11_addRule 43 = .ok (.iconst 1, 1) := by decide +kernel
theorem dX11_addRule_44 : decode cX11_addRule 44 = .ok (.iadd, 1) := by decide +kernel
theorem dX11_addRule_45 : decode cX11_addRule 45 = .ok (.iload_n 3, 1) := by decide +kernel
theorem dX11_addRule_46 : decode cX11_addRule 46 = .ok (.invokestatic 279, 3) := by decide +kernel
theorem dX11_addRule_49 : decode cX11_addRule 49 = .ok (.iadd, 1) := by decide +kernel
theorem dX11_addRule_50 : decode cX11_addRule 50 = .ok (.istore 4, 2) := by decide +kernel
theorem dX11_addRule_52 : decode cX11_addRule 52 = .ok (.iload_n 2, 1) := by decide +kernel
theorem dX11_addRule_53 : decode cX11_addRule 53 = .ok (.ifCond .le 20, 3) := by decide +kernel
theorem dX11_addRule_56 : decode cX11_addRule 56 = .ok (.aload_n 0, 1) := by decide +kernel
theorem dX11_addRule_57 : decode cX11_addRule 57 = .ok (.getfield 77, 3) := by decide +kernel
theorem dX11_addRule_60 : decode cX11_addRule 60 = .ok (.iload_n 2, 1) := by decide +kernel
theorem dX11_addRule_61 : decode cX11_addRule 61 = .ok (.invokevirtual 284, 3) := by decide +kernel
theorem dX11_addRule_64 : decode cX11_addRule 64 = .ok (.bipush 62, 2) := by decide +kernel
theorem dX11_addRule_66 : decode cX11_addRule 66 = .ok (.if_icmp .ne 7, 3) := by decide +kernel
theorem dX11_addRule_69 : decode cX11_addRule 69 = .ok (.iconst 1, 1) := by decide +kernel
theorem dX11_addRule_70 : decode cX11_addRule 70 = .ok (.goto 4, 3) := by decide +kernel
theorem dX11_addRule_73 : decode cX11_addRule 73 = .ok (.iconst 0, 1) := by decide +kernel
theorem dX11_addRule_74 : decode cX11_addRule 74 = .ok (.istore 5, 2) := by decide +kernel
theorem dX11_addRule_76 : decode cX11_addRule 76 = .ok (.iload 4, 2) := by decide +kernel
theorem dX11_addRule_78 : decode cX11_addRule 78 = .ok (.aload_n 0, 1) := by decide +kernel
theorem dX11_addRule_79 : decode cX11_addRule 79 = .ok (.getfield 77, 3) := by decide +kernel
theorem dX11_addRule_82 : decode cX11_addRule 82 = .ok (.getfield 271, 3) := by decide +kernel
theorem dX11_addRule_85 : decode cX11_addRule 85 = .ok (.if_icmp .ne 7, 3) := by decide +kernel
theorem dX11_addRule_88 : decode cX11_addRule 88 = .ok (.iconst 1, 1) := by decide +kernel
theorem dX11_addRule_89 : decode cX11_addRule 89 = .ok (.goto 4, 3) := by decide +kernel
theorem dX11_addRule_92 : decode cX11_addRule 92 = .ok (.iconst 0, 1) := by decide +kernel
theorem dX11_addRule_93 : decode cX11_addRule 93 = .ok (.istore 6, 2) := by decide +kernel
theorem dX11_addRule_95 : decode cX11_addRule 95 = .ok (.aload_n 0, 1) := by decide +kernel
theorem dX11_addRule_96 : decode cX11_addRule 96 = .ok (.getfield 77, 3) := by decide +kernel
theorem dX11_addRule_99 : decode cX11_addRule 99 = .ok (.invokevirtual 287, 3) := by decide +kernel
theorem dX11_addRule_102 : decode cX11_addRule 102 = .ok (.iload 5, 2) := by decide +kernel
theorem dX11_addRule_104 : decode cX11_addRule 104 = .ok (.ifCond .ne 8, 3) := by decide +kernel
theorem dX11_addRule_107 : decode cX11_addRule 107 = .ok (.bipush (-100), 2) := by decide +kernel
theorem dX11_addRule_109 : decode cX11_addRule 109 = .ok (.iload_n 2, 1) := by decide +kernel
theorem dX11_addRule_110 : decode cX11_addRule 110 = .ok (.isub, 1) := by decide +kernel
theorem dX11_addRule_111 : decode cX11_addRule 111 = .ok (.ireturn, 1) := by decide +kernel
theorem dX11_addRule_112 : decode cX11_addRule 112 = .ok (.iload 6, 2) := by decide +kernel
theorem dX11_addRule_114 : decode cX11_addRule 114 = .ok (.ifCond .eq 15, 3) := by decide +kernel
theorem dX11_addRule_117 : decode cX11_addRule 117 = .ok (.aload_n 0, 1) := by decide +kernel
theorem dX11_addRule_118 : decode cX11_addRule 118 = .ok (.getfield 26, 3) := by decide +kernel
theorem dX11_addRule_121 : decode cX11_addRule 121 = .ok (.iload_n 1, 1) := by decide +kernel
theorem dX11_addRule_122 : decode cX11_addRule 122 = .ok (.iload_n 3, 1) := by decide +kernel
theorem dX11_addRule_123 : decode cX11_addRule 123 = .ok (.invokevirtual 288, 3) := by decide +kernel
theorem dX11_addRule_126 : decode cX11_addRule 126 = .ok (.goto 8, 3) := by decide +kernel
theorem dX11_addRule_129 : decode cX11_addRule 129 = .ok (.bipush (-100), 2) := by decide +kernel
theorem dX11_addRule_131 : decode cX11_addRule 131 = .ok (.iload 4, 2) := by decide +kernel
theorem dX11_addRule_133 : decode cX11_addRule 133 = .ok (.isub, 1) := by decide +kernel
theorem dX11_addRule_134 : decode cX11_addRule 134 = .ok (.ireturn, 1) := by decide +kernel
theorem dX11_clearRules_0 : decode cX11_clearRules 0 = .ok (.aload_n 0, 1) := by decide +kernel
theorem dX11_clearRules_1 : decode cX11_clearRules 1 = .ok (.getfield 26, 3) := by decide +kernel
theorem dX11_clearRules_4 : decode cX11_clearRules 4 = .ok (.getfield 275, 3) := by decide +kernel
theorem dX11_clearRules_7 : decode cX11_clearRules 7 = .ok (.istore_n 1, 1) := by decide +kernel
theorem dX11_clearRules_8 : decode cX11_clearRules 8 = .ok (.aload_n 0, 1) := by decide +kernel
theorem dX11_clearRules_9 : decode cX11_clearRules 9 = .ok (.getfield 26, 3) := by decide +kernel
theorem dX11_clearRules_12 : decode cX11_clearRules 12 = .ok (.iconst 0, 1) := by decide +kernel
theorem dX11_clearRules_13 : decode cX11_clearRules 13 = .ok (.putfield 275, 3) := by decide +kernel
theorem dX11_clearRules_16 : decode cX11_clearRules 16 = .ok (.iload_n 1, 1) := by decide +kernel
theorem dX11_clearRules_17 : decode cX11_clearRules 17 = .ok (.ireturn, 1) := by decide +kernel
set_option maxRecDepth 20000 in
theorem ggX11_explore_X1_wordAt : GoodIn wsX11_explore wsX1_wordAt := goodIn_r _ [8, 9, 10, 11, 6, 12, 13, 14, 15, 16, 17, 92, 93] (by decide +kernel) (by decide +kernel)
set_option maxRecDepth 20000 in
theorem gX11_explore_X1_wordAt_n276 : GoodIn wsX11_explore (wsX1_wordAt) := ggX11_explore_X1_wordAt
set_option maxRecDepth 20000 in
theorem ggX11_explore_X10_lengthOf : GoodIn wsX11_explore wsX10_lengthOf := goodIn_r _ [19] (by decide +kernel) (by decide +kernel)
set_option maxRecDepth 20000 in
theorem gX11_explore_X10_lengthOf_n279 : GoodIn wsX11_explore (wsX10_lengthOf) := ggX11_explore_X10_lengthOf
set_option maxRecDepth 20000 in
theorem ggX11_explore_X1_clear : GoodIn wsX11_explore wsX1_clear := goodIn_r _ [22, 13, 92, 93] (by decide +kernel) (by decide +kernel)
set_option maxRecDepth 20000 in
theorem gX11_explore_X1_clear_n287 : GoodIn wsX11_explore (wsX1_clear) := ggX11_explore_X1_clear
set_option maxRecDepth 20000 in
theorem ggX11_explore_X0_run : GoodIn wsX11_explore wsX0_run := goodIn_r _ [26, 27, 28, 29, 30, 31, 32, 33, 34, 35, 36, 37, 38, 39, 40, 41, 42, 43, 24, 44, 18, 16, 19, 45, 46, 47, 48, 49, 50, 51, 52, 53, 54, 55, 56, 57, 58, 59, 60, 61, 62, 63, 64, 65, 66, 67, 68, 94, 95, 96, 97, 98, 99, 100, 101, 102, 103, 104, 105, 106] (by decide +kernel) (by decide +kernel)
set_option maxRecDepth 20000 in
theorem gX11_explore_X0_run_n290 : GoodIn wsX11_explore (wsX0_run) := ggX11_explore_X0_run
set_option maxRecDepth 20000 in
theorem ggX11_explore_X3_copyFrom : GoodIn wsX11_explore wsX3_copyFrom := goodIn_r _ [71, 35, 40, 72, 73, 74, 75, 36, 63, 64, 65, 98, 99, 100, 101, 102, 103] (by decide +kernel) (by decide +kernel)
set_option maxRecDepth 20000 in
theorem gX11_explore_X3_copyFrom_n297 : GoodIn wsX11_explore (wsX3_copyFrom) := ggX11_explore_X3_copyFrom
theorem dX11_explore_0 : decode cX11_explore 0 = .ok (.aload_n 0, 1) := by decide +kernel
theorem dX11_explore_1 : decode cX11_explore 1 = .ok (.getfield 77, 3) := by decide +kernel
theorem dX11_explore_4 : decode cX11_explore 4 = .ok (.iconst 0, 1) := by decide +kernel
theorem dX11_explore_5 : decode cX11_explore 5 = .ok (.bipush 8, 2) := by decide +kernel
theorem dX11_explore_7 : decode cX11_explore 7 = .ok (.invokevirtual 276, 3) := by decide +kernel
theorem dX11_explore_10 : decode cX11_explore 10 = .ok (.istore_n 1, 1) := by decide +kernel
theorem dX11_explore_11 : decode cX11_explore 11 = .ok (.iload_n 1, 1) := by decide +kernel
theorem dX11_explore_12 : decode cX11_explore 12 = .ok (.invokestatic 279, 3) := by decide +kernel
theorem dX11_explore_15 : decode cX11_explore 15 = .ok (.istore_n 2, 1) := by decide +kernel
theorem dX11_explore_16 : decode cX11_explore 16 = .ok (.iload_n 2, 1) := by decide +kernel
theorem dX11_explore_17 : decode cX11_explore 17 = .ok (.ifCond .le 18, 3) := by decide +kernel
theorem dX11_explore_20 : decode cX11_explore 20 = .ok (.iload_n 2, 1) := by decide +kernel
theorem dX11_explore_21 : decode cX11_explore 21 = .ok (.aload_n 0, 1) := by decide +kernel
theorem dX11_explore_22 : decode cX11_explore 22 = .ok (.getfield 77, 3) := by decide +kernel
theorem dX11_explore_25 : decode cX11_explore 25 = .ok (.getfield 271, 3) := by decide +kernel
theorem dX11_explore_28 : decode cX11_explore 28 = .ok (.if_icmp .ne 7, 3) := by decide +kernel
theorem dX11_explore_31 : decode cX11_explore 31 = .ok (.iconst 1, 1) := by decide +kernel
theorem dX11_explore_32 : decode cX11_explore 32 = .ok (.goto 4, 3) := by decide +kernel
theorem dX11_explore_35 : decode cX11_explore 35 = .ok (.iconst 0, 1) := by decide +kernel
theorem dX11_explore_36 : decode cX11_explore 36 = .ok (.istore_n 3, 1) := by decide +kernel
theorem dX11_explore_37 : decode cX11_explore 37 = .ok (.aload_n 0, 1) := by decide +kernel
theorem dX11_explore_38 : decode cX11_explore 38 = .ok (.getfield 77, 3) := by decide +kernel
theorem dX11_explore_41 : decode cX11_explore 41 = .ok (.invokevirtual 287, 3) := by decide +kernel
theorem dX11_explore_44 : decode cX11_explore 44 = .ok (.iload_n 3, 1) := by decide +kernel
theorem dX11_explore_45 : decode cX11_explore 45 = .ok (.ifCond .ne 8, 3) := by decide +kernel
theorem dX11_explore_48 : decode cX11_explore 48 = .ok (.bipush (-100), 2) := by decide +kernel
theorem dX11_explore_50 : decode cX11_explore 50 = .ok (.iload_n 2, 1) := by decide +kernel
theorem dX11_explore_51 : decode cX11_explore 51 = .ok (.isub, 1) := by decide +kernel
theorem dX11_explore_52 : decode cX11_explore 52 = .ok (.ireturn, 1) := by decide +kernel
theorem dX11_explore_53 : decode cX11_explore 53 = .ok (.aload_n 0, 1) := by decide +kernel
theorem dX11_explore_54 : decode cX11_explore 54 = .ok (.getfield 84, 3) := by decide +kernel
theorem dX11_explore_57 : decode cX11_explore 57 = .ok (.iload_n 1, 1) := by decide +kernel
theorem dX11_explore_58 : decode cX11_explore 58 = .ok (.aload_n 0, 1) := by decide +kernel
theorem dX11_explore_59 : decode cX11_explore 59 = .ok (.getfield 26, 3) := by decide +kernel
theorem dX11_explore_62 : decode cX11_explore 62 = .ok (.invokevirtual 290, 3) := by decide +kernel
theorem dX11_explore_65 : decode cX11_explore 65 = .ok (.ifCond .ne 6, 3) := by decide +kernel
theorem dX11_explore_68 : decode cX11_explore 68 = .ok (.bipush (-6), 2) := by decide +kernel
theorem dX11_explore_70 : decode cX11_explore 70 = .ok (.ireturn, 1) := by decide +kernel
theorem dX11_explore_71 : decode cX11_explore 71 = .ok (.aload_n 0, 1) := by decide +kernel
theorem dX11_explore_72 : decode cX11_explore 72 = .ok (.getfield 19, 3) := by decide +kernel
theorem dX11_explore_75 : decode cX11_explore 75 = .ok (.aload_n 0, 1) := by decide +kernel
theorem dX11_explore_76 : decode cX11_explore 76 = .ok (.getfield 84, 3) := by decide +kernel
theorem dX11_explore_79 : decode cX11_explore 79 = .ok (.getfield 294, 3) := by decide +kernel
theorem dX11_explore_82 : decode cX11_explore 82 = .ok (.invokevirtual 297, 3) := by decide +kernel
theorem dX11_explore_85 : decode cX11_explore 85 = .ok (.aload_n 0, 1) := by decide +kernel
theorem dX11_explore_86 : decode cX11_explore 86 = .ok (.getfield 19, 3) := by decide +kernel
theorem dX11_explore_89 : decode cX11_explore 89 = .ok (.getfield 149, 3) := by decide +kernel
theorem dX11_explore_92 : decode cX11_explore 92 = .ok (.ireturn, 1) := by decide +kernel
theorem dX11_failure_0 : decode cX11_failure 0 = .ok (.iload_n 1, 1) := by decide +kernel
theorem dX11_failure_1 : decode cX11_failure 1 = .ok (.tableswitch 51 0 2 #[27, 35, 43], 27) := by decide +kernel
theorem dX11_failure_28 : decode cX11_failure 28 = .ok (.aload_n 0, 1) := by decide +kernel
theorem dX11_failure_29 : decode cX11_failure 29 = .ok (.getfield 84, 3) := by decide +kernel
theorem dX11_failure_32 : decode cX11_failure 32 = .ok (.getfield 300, 3) := by decide +kernel
theorem dX11_failure_35 : decode cX11_failure 35 = .ok (.ireturn, 1) := by decide +kernel
theorem dX11_failure_36 : decode cX11_failure 36 = .ok (.aload_n 0, 1) := by decide +kernel
theorem dX11_failure_37 : decode cX11_failure 37 = .ok (.getfield 84, 3) := by decide +kernel
theorem dX11_failure_40 : decode cX11_failure 40 = .ok (.getfield 303, 3) := by decide +kernel
theorem dX11_failure_43 : decode cX11_failure 43 = .ok (.ireturn, 1) := by decide +kernel
theorem dX11_failure_44 : decode cX11_failure 44 = .ok (.aload_n 0, 1) := by decide +kernel
theorem dX11_failure_45 : decode cX11_failure 45 = .ok (.getfield 84, 3) := by decide +kernel
theorem dX11_failure_48 : decode cX11_failure 48 = .ok (.getfield 306, 3) := by decide +kernel
theorem dX11_failure_51 : decode cX11_failure 51 = .ok (.ireturn, 1) := by decide +kernel
theorem dX11_failure_52 : decode cX11_failure 52 = .ok (.bipush (-2), 2) := by decide +kernel
theorem dX11_failure_54 : decode cX11_failure 54 = .ok (.ireturn, 1) := by decide +kernel
set_option maxRecDepth 20000 in
theorem ggX11_wordLength_X3_hasObject : GoodIn wsX11_wordLength wsX3_hasObject := goodIn_r _ [5, 6, 26, 27, 28, 29, 30, 31] (by decide +kernel) (by decide +kernel)
set_option maxRecDepth 20000 in
theorem gX11_wordLength_X3_hasObject_n128 : GoodIn wsX11_wordLength (wsX3_hasObject) := ggX11_wordLength_X3_hasObject
set_option maxRecDepth 20000 in
theorem ggX11_wordLength_X10_lengthOf : GoodIn wsX11_wordLength wsX10_lengthOf := goodIn_r _ [9] (by decide +kernel) (by decide +kernel)
set_option maxRecDepth 20000 in
theorem gX11_wordLength_X10_lengthOf_n279 : GoodIn wsX11_wordLength (wsX10_lengthOf) := ggX11_wordLength_X10_lengthOf
theorem dX11_wordLength_0 : decode cX11_wordLength 0 = .ok (.aload_n 0, 1) := by decide +kernel
theorem dX11_wordLength_1 : decode cX11_wordLength 1 = .ok (.getfield 19, 3) := by decide +kernel
theorem dX11_wordLength_4 : decode cX11_wordLength 4 = .ok (.iload_n 1, 1) := by decide +kernel
theorem dX11_wordLength_5 : decode cX11_wordLength 5 = .ok (.invokevirtual 128, 3) := by decide +kernel
theorem dX11_wordLength_8 : decode cX11_wordLength 8 = .ok (.ifCond .ne 5, 3) := by decide +kernel
theorem dX11_wordLength_11 : decode cX11_wordLength 11 = .ok (.iconst (-1), 1) := by decide +kernel
theorem dX11_wordLength_12 : decode cX11_wordLength 12 = .ok (.ireturn, 1) := by decide +kernel
theorem dX11_wordLength_13 : decode cX11_wordLength 13 = .ok (.aload_n 0, 1) := by decide +kernel
theorem dX11_wordLength_14 : decode cX11_wordLength 14 = .ok (.getfield 19, 3) := by decide +kernel
theorem dX11_wordLength_17 : decode cX11_wordLength 17 = .ok (.getfield 309, 3) := by decide +kernel
theorem dX11_wordLength_20 : decode cX11_wordLength 20 = .ok (.iload_n 1, 1) := by decide +kernel
theorem dX11_wordLength_21 : decode cX11_wordLength 21 = .ok (.iaload, 1) := by decide +kernel
theorem dX11_wordLength_22 : decode cX11_wordLength 22 = .ok (.istore_n 2, 1) := by decide +kernel
theorem dX11_wordLength_23 : decode cX11_wordLength 23 = .ok (.iload_n 2, 1) := by decide +kernel
theorem dX11_wordLength_24 : decode cX11_wordLength 24 = .ok (.bipush (-2), 2) := by decide +kernel
theorem dX11_wordLength_26 : decode cX11_wordLength 26 = .ok (.if_icmp .ne 8, 3) := by decide +kernel
theorem dX11_wordLength_29 : decode cX11_wordLength 29 = .ok (.bipush (-2), 2) := by decide +kernel
theorem dX11_wordLength_31 : decode cX11_wordLength 31 = .ok (.goto 7, 3) := by decide +kernel
theorem dX11_wordLength_34 : decode cX11_wordLength 34 = .ok (.iload_n 2, 1) := by decide +kernel
theorem dX11_wordLength_35 : decode cX11_wordLength 35 = .ok (.invokestatic 279, 3) := by decide +kernel
theorem dX11_wordLength_38 : decode cX11_wordLength 38 = .ok (.ireturn, 1) := by decide +kernel
set_option maxRecDepth 20000 in
theorem ggX11_letter_X3_hasObject : GoodIn wsX11_letter wsX3_hasObject := goodIn_r _ [5, 6, 28, 29, 30, 31, 32, 33] (by decide +kernel) (by decide +kernel)
set_option maxRecDepth 20000 in
theorem gX11_letter_X3_hasObject_n128 : GoodIn wsX11_letter (wsX3_hasObject) := ggX11_letter_X3_hasObject
set_option maxRecDepth 20000 in
theorem ggX11_letter_X10_lengthOf : GoodIn wsX11_letter wsX10_lengthOf := goodIn_r _ [9] (by decide +kernel) (by decide +kernel)
set_option maxRecDepth 20000 in
theorem gX11_letter_X10_lengthOf_n279 : GoodIn wsX11_letter (wsX10_lengthOf) := ggX11_letter_X10_lengthOf
set_option maxRecDepth 20000 in
theorem ggX11_letter_X10_letterOf : GoodIn wsX11_letter wsX10_letterOf := goodIn_r _ [11] (by decide +kernel) (by decide +kernel)
set_option maxRecDepth 20000 in
theorem gX11_letter_X10_letterOf_n312 : GoodIn wsX11_letter (wsX10_letterOf) := ggX11_letter_X10_letterOf
theorem dX11_letter_0 : decode cX11_letter 0 = .ok (.aload_n 0, 1) := by decide +kernel
theorem dX11_letter_1 : decode cX11_letter 1 = .ok (.getfield 19, 3) := by decide +kernel
theorem dX11_letter_4 : decode cX11_letter 4 = .ok (.iload_n 1, 1) := by decide +kernel
theorem dX11_letter_5 : decode cX11_letter 5 = .ok (.invokevirtual 128, 3) := by decide +kernel
theorem dX11_letter_8 : decode cX11_letter 8 = .ok (.ifCond .ne 5, 3) := by decide +kernel
theorem dX11_letter_11 : decode cX11_letter 11 = .ok (.iconst (-1), 1) := by decide +kernel
theorem dX11_letter_12 : decode cX11_letter 12 = .ok (.ireturn, 1) := by decide +kernel
theorem dX11_letter_13 : decode cX11_letter 13 = .ok (.aload_n 0, 1) := by decide +kernel
theorem dX11_letter_14 : decode cX11_letter 14 = .ok (.getfield 19, 3) := by decide +kernel
theorem dX11_letter_17 : decode cX11_letter 17 = .ok (.getfield 309, 3) := by decide +kernel
theorem dX11_letter_20 : decode cX11_letter 20 = .ok (.iload_n 1, 1) := by decide +kernel
theorem dX11_letter_21 : decode cX11_letter 21 = .ok (.iaload, 1) := by decide +kernel
theorem dX11_letter_22 : decode cX11_letter 22 = .ok (.istore_n 3, 1) := by decide +kernel
theorem dX11_letter_23 : decode cX11_letter 23 = .ok (.iload_n 3, 1) := by decide +kernel
theorem dX11_letter_24 : decode cX11_letter 24 = .ok (.bipush (-2), 2) := by decide +kernel
theorem dX11_letter_26 : decode cX11_letter 26 = .ok (.if_icmp .eq 15, 3) := by decide +kernel
theorem dX11_letter_29 : decode cX11_letter 29 = .ok (.iload_n 2, 1) := by decide +kernel
theorem dX11_letter_30 : decode cX11_letter 30 = .ok (.ifCond .lt 11, 3) := by decide +kernel
theorem dX11_letter_33 : decode cX11_letter 33 = .ok (.iload_n 2, 1) := by decide +kernel
theorem dX11_letter_34 : decode cX11_letter 34 = .ok (.iload_n 3, 1) := by decide +kernel
theorem dX11_letter_35 : decode cX11_letter 35 = .ok (.invokestatic 279, 3) := by decide +kernel
theorem dX11_letter_38 : decode cX11_letter 38 = .ok (.if_icmp .lt 6, 3) := by decide +kernel
theorem dX11_letter_41 : decode cX11_letter 41 = .ok (.bipush (-2), 2) := by decide +kernel
theorem dX11_letter_43 : decode cX11_letter 43 = .ok (.ireturn, 1) := by decide +kernel
theorem dX11_letter_44 : decode cX11_letter 44 = .ok (.iload_n 3, 1) := by decide +kernel
theorem dX11_letter_45 : decode cX11_letter 45 = .ok (.iload_n 2, 1) := by decide +kernel
theorem dX11_letter_46 : decode cX11_letter 46 = .ok (.invokestatic 312, 3) := by decide +kernel
theorem dX11_letter_49 : decode cX11_letter 49 = .ok (.ireturn, 1) := by decide +kernel
set_option maxRecDepth 20000 in
theorem ggX11_newArray_X11_isArray : GoodIn wsX11_newArray wsX11_isArray := goodIn_r _ [5] (by decide +kernel) (by decide +kernel)
set_option maxRecDepth 20000 in
theorem gX11_newArray_X11_isArray : GoodIn wsX11_newArray (va_wsS RX11 315 yX11_isArray wsX11_isArray) := goodIn_app (goodIn_of _ (by decide +kernel)) ggX11_newArray_X11_isArray
set_option maxRecDepth 20000 in
theorem ggX11_newArray_X5_renew : GoodIn wsX11_newArray wsX5_renew := goodIn_r _ [9, 10, 11, 12, 13, 14, 15, 32, 33] (by decide +kernel) (by decide +kernel)
set_option maxRecDepth 20000 in
theorem gX11_newArray_X5_renew_n318 : GoodIn wsX11_newArray (wsX5_renew) := ggX11_newArray_X5_renew
theorem dX11_newArray_0 : decode cX11_newArray 0 = .ok (.iload_n 1, 1) := by decide +kernel
theorem dX11_newArray_1 : decode cX11_newArray 1 = .ok (.invokestatic 315, 3) := by decide +kernel
theorem dX11_newArray_4 : decode cX11_newArray 4 = .ok (.ifCond .eq 9, 3) := by decide +kernel
theorem dX11_newArray_7 : decode cX11_newArray 7 = .ok (.iload_n 2, 1) := by decide +kernel
theorem dX11_newArray_8 : decode cX11_newArray 8 = .ok (.bipush 16, 2) := by decide +kernel
theorem dX11_newArray_10 : decode cX11_newArray 10 = .ok (.if_icmp .le 5, 3) := by decide +kernel
theorem dX11_newArray_13 : decode cX11_newArray 13 = .ok (.iconst (-1), 1) := by decide +kernel
theorem dX11_newArray_14 : decode cX11_newArray 14 = .ok (.ireturn, 1) := by decide +kernel
theorem dX11_newArray_15 : decode cX11_newArray 15 = .ok (.iload_n 2, 1) := by decide +kernel
theorem dX11_newArray_16 : decode cX11_newArray 16 = .ok (.ifCond .ge 6, 3) := by decide +kernel
theorem dX11_newArray_19 : decode cX11_newArray 19 = .ok (.bipush (-14), 2) := by decide +kernel
theorem dX11_newArray_21 : decode cX11_newArray 21 = .ok (.ireturn, 1) := by decide +kernel
theorem dX11_newArray_22 : decode cX11_newArray 22 = .ok (.aload_n 0, 1) := by decide +kernel
theorem dX11_newArray_23 : decode cX11_newArray 23 = .ok (.getfield 91, 3) := by decide +kernel
theorem dX11_newArray_26 : decode cX11_newArray 26 = .ok (.iload_n 1, 1) := by decide +kernel
theorem dX11_newArray_27 : decode cX11_newArray 27 = .ok (.iload_n 2, 1) := by decide +kernel
theorem dX11_newArray_28 : decode cX11_newArray 28 = .ok (.invokevirtual 318, 3) := by decide +kernel
theorem dX11_newArray_31 : decode cX11_newArray 31 = .ok (.iconst 1, 1) := by decide +kernel
theorem dX11_newArray_32 : decode cX11_newArray 32 = .ok (.ireturn, 1) := by decide +kernel
set_option maxRecDepth 20000 in
theorem ggX11_setElement_X11_isArray : GoodIn wsX11_setElement wsX11_isArray := goodIn_r _ [5] (by decide +kernel) (by decide +kernel)
set_option maxRecDepth 20000 in
theorem gX11_setElement_X11_isArray : GoodIn wsX11_setElement (va_wsS RX11 315 yX11_isArray wsX11_isArray) := goodIn_app (goodIn_of _ (by decide +kernel)) ggX11_setElement_X11_isArray
set_option maxRecDepth 20000 in
theorem ggX11_setElement_X5_isMissing : GoodIn wsX11_setElement wsX5_isMissing := goodIn_r _ [9, 10, 30, 31] (by decide +kernel) (by decide +kernel)
set_option maxRecDepth 20000 in
theorem gX11_setElement_X5_isMissing_n321 : GoodIn wsX11_setElement (wsX5_isMissing) := ggX11_setElement_X5_isMissing
set_option maxRecDepth 20000 in
theorem ggX11_setElement_X5_hasElement : GoodIn wsX11_setElement wsX5_hasElement := goodIn_r _ [13, 10, 30, 31] (by decide +kernel) (by decide +kernel)
set_option maxRecDepth 20000 in
theorem gX11_setElement_X5_hasElement_n324 : GoodIn wsX11_setElement (wsX5_hasElement) := ggX11_setElement_X5_hasElement
theorem dX11_setElement_0 : decode cX11_setElement 0 = .ok (.iload_n 1, 1) := by decide +kernel
theorem dX11_setElement_1 : decode cX11_setElement 1 = .ok (.invokestatic 315, 3) := by decide +kernel
theorem dX11_setElement_4 : decode cX11_setElement 4 = .ok (.ifCond .ne 5, 3) := by decide +kernel
theorem dX11_setElement_7 : decode cX11_setElement 7 = .ok (.iconst (-1), 1) := by decide +kernel
theorem dX11_setElement_8 : decode cX11_setElement 8 = .ok (.ireturn, 1) := by decide +kernel
theorem dX11_setElement_9 : decode cX11_setElement 9 = .ok (.aload_n 0, 1) := by decide +kernel
theorem dX11_setElement_10 : decode cX11_setElement 10 = .ok (.getfield 91, 3) := by decide +kernel
theorem dX11_setElement_13 : decode cX11_setElement 13 = .ok (.iload_n 1, 1) := by decide +kernel
theorem dX11_setElement_14 : decode cX11_setElement 14 = .ok (.invokevirtual 321, 3) := by decide +kernel
theorem dX11_setElement_17 : decode cX11_setElement 17 = .ok (.ifCond .eq 6, 3) := by decide +kernel
theorem dX11_setElement_20 : decode cX11_setElement 20 = .ok (.bipush (-11), 2) := by decide +kernel
theorem dX11_setElement_22 : decode cX11_setElement 22 = .ok (.ireturn, 1) := by decide +kernel
theorem dX11_setElement_23 : decode cX11_setElement 23 = .ok (.aload_n 0, 1) := by decide +kernel
theorem dX11_setElement_24 : decode cX11_setElement 24 = .ok (.getfield 91, 3) := by decide +kernel
theorem dX11_setElement_27 : decode cX11_setElement 27 = .ok (.iload_n 1, 1) := by decide +kernel
theorem dX11_setElement_28 : decode cX11_setElement 28 = .ok (.iload_n 2, 1) := by decide +kernel
theorem dX11_setElement_29 : decode cX11_setElement 29 = .ok (.invokevirtual 324, 3) := by decide +kernel
theorem dX11_setElement_32 : decode cX11_setElement 32 = .ok (.ifCond .ne 6, 3) := by decide +kernel
theorem dX11_setElement_35 : decode cX11_setElement 35 = .ok (.bipush (-13), 2) := by decide +kernel
theorem dX11_setElement_37 : decode cX11_setElement 37 = .ok (.ireturn, 1) := by decide +kernel
theorem dX11_setElement_38 : decode cX11_setElement 38 = .ok (.aload_n 0, 1) := by decide +kernel
theorem dX11_setElement_39 : decode cX11_setElement 39 = .ok (.getfield 91, 3) := by decide +kernel
theorem dX11_setElement_42 : decode cX11_setElement 42 = .ok (.getfield 327, 3) := by decide +kernel
theorem dX11_setElement_45 : decode cX11_setElement 45 = .ok (.iload_n 1, 1) := by decide +kernel
theorem dX11_setElement_46 : decode cX11_setElement 46 = .ok (.aaload, 1) := by decide +kernel
theorem dX11_setElement_47 : decode cX11_setElement 47 = .ok (.iload_n 2, 1) := by decide +kernel
theorem dX11_setElement_48 : decode cX11_setElement 48 = .ok (.lload_n 3, 1) := by decide +kernel
theorem dX11_setElement_49 : decode cX11_setElement 49 = .ok (.lastore, 1) := by decide +kernel
theorem dX11_setElement_50 : decode cX11_setElement 50 = .ok (.iconst 1, 1) := by decide +kernel
theorem dX11_setElement_51 : decode cX11_setElement 51 = .ok (.ireturn, 1) := by decide +kernel
set_option maxRecDepth 20000 in
theorem ggX11_element_X11_isArray : GoodIn wsX11_element wsX11_isArray := goodIn_r _ [6] (by decide +kernel) (by decide +kernel)
set_option maxRecDepth 20000 in
theorem gX11_element_X11_isArray : GoodIn wsX11_element (va_wsS RX11 315 yX11_isArray wsX11_isArray) := goodIn_app (goodIn_of _ (by decide +kernel)) ggX11_element_X11_isArray
set_option maxRecDepth 20000 in
theorem ggX11_element_X5_hasElement : GoodIn wsX11_element wsX5_hasElement := goodIn_r _ [10, 11, 28, 29] (by decide +kernel) (by decide +kernel)
set_option maxRecDepth 20000 in
theorem gX11_element_X5_hasElement_n324 : GoodIn wsX11_element (wsX5_hasElement) := ggX11_element_X5_hasElement
theorem dX11_element_0 : decode cX11_element 0 = .ok (.iload_n 1, 1) := by decide +kernel
theorem dX11_element_1 : decode cX11_element 1 = .ok (.invokestatic 315, 3) := by decide +kernel
theorem dX11_element_4 : decode cX11_element 4 = .ok (.ifCond .eq 15, 3) := by decide +kernel
theorem dX11_element_7 : decode cX11_element 7 = .ok (.aload_n 0, 1) := by decide +kernel
theorem dX11_element_8 : decode cX11_element 8 = .ok (.getfield 91, 3) := by decide +kernel
theorem dX11_element_11 : decode cX11_element 11 = .ok (.iload_n 1, 1) := by decide +kernel
theorem dX11_element_12 : decode cX11_element 12 = .ok (.iload_n 2, 1) := by decide +kernel
theorem dX11_element_13 : decode cX11_element 13 = .ok (.invokevirtual 324, 3) := by decide +kernel
theorem dX11_element_16 : decode cX11_element 16 = .ok (.ifCond .ne 7, 3) := by decide +kernel
theorem dX11_element_19 : decode cX11_element 19 = .ok (.ldc2_w 333, 3) := by decide +kernel
theorem dX11_element_22 : decode cX11_element 22 = .ok (.lreturn, 1) := by decide +kernel
theorem dX11_element_23 : decode cX11_element 23 = .ok (.aload_n 0, 1) := by decide +kernel
theorem dX11_element_24 : decode cX11_element 24 = .ok (.getfield 91, 3) := by decide +kernel
theorem dX11_element_27 : decode cX11_element 27 = .ok (.getfield 327, 3) := by decide +kernel
theorem dX11_element_30 : decode cX11_element 30 = .ok (.iload_n 1, 1) := by decide +kernel
theorem dX11_element_31 : decode cX11_element 31 = .ok (.aaload, 1) := by decide +kernel
theorem dX11_element_32 : decode cX11_element 32 = .ok (.iload_n 2, 1) := by decide +kernel
theorem dX11_element_33 : decode cX11_element 33 = .ok (.laload, 1) := by decide +kernel
theorem dX11_element_34 : decode cX11_element 34 = .ok (.lreturn, 1) := by decide +kernel
set_option maxRecDepth 20000 in
theorem ggX11_saveReachable_X11_isArray : GoodIn wsX11_saveReachable wsX11_isArray := goodIn_r _ [7] (by decide +kernel) (by decide +kernel)
set_option maxRecDepth 20000 in
theorem gX11_saveReachable_X11_isArray : GoodIn wsX11_saveReachable (va_wsS RX11 315 yX11_isArray wsX11_isArray) := goodIn_app (goodIn_of _ (by decide +kernel)) ggX11_saveReachable_X11_isArray
set_option maxRecDepth 20000 in
theorem ggX11_saveReachable_X3_fillReach : GoodIn wsX11_saveReachable wsX3_fillReach := goodIn_r _ [11, 12, 13, 14, 15, 9, 16, 17, 18, 19, 20, 21, 22, 23, 24, 51, 52, 53, 54, 55, 56] (by decide +kernel) (by decide +kernel)
set_option maxRecDepth 20000 in
theorem gX11_saveReachable_X3_fillReach_n191 : GoodIn wsX11_saveReachable (wsX3_fillReach) := ggX11_saveReachable_X3_fillReach
set_option maxRecDepth 20000 in
theorem ggX11_saveReachable_X5_renew : GoodIn wsX11_saveReachable wsX5_renew := goodIn_r _ [28, 29, 30, 31, 32, 33, 34, 57, 58] (by decide +kernel) (by decide +kernel)
set_option maxRecDepth 20000 in
theorem gX11_saveReachable_X5_renew_n318 : GoodIn wsX11_saveReachable (wsX5_renew) := ggX11_saveReachable_X5_renew
theorem dX11_saveReachable_0 : decode cX11_saveReachable 0 = .ok (.iload_n 1, 1) := by decide +kernel
theorem dX11_saveReachable_1 : decode cX11_saveReachable 1 = .ok (.invokestatic 315, 3) := by decide +kernel
theorem dX11_saveReachable_4 : decode cX11_saveReachable 4 = .ok (.ifCond .ne 5, 3) := by decide +kernel
theorem dX11_saveReachable_7 : decode cX11_saveReachable 7 = .ok (.iconst (-1), 1) := by decide +kernel
theorem dX11_saveReachable_8 : decode cX11_saveReachable 8 = .ok (.ireturn, 1) := by decide +kernel
theorem dX11_saveReachable_9 : decode cX11_saveReachable 9 = .ok (.aload_n 0, 1) := by decide +kernel
theorem dX11_saveReachable_10 : decode cX11_saveReachable 10 = .ok (.getfield 19, 3) := by decide +kernel
theorem dX11_saveReachable_13 : decode cX11_saveReachable 13 = .ok (.aload_n 0, 1) := by decide +kernel
theorem dX11_saveReachable_14 : decode cX11_saveReachable 14 = .ok (.getfield 95, 3) := by decide +kernel
theorem dX11_saveReachable_17 : decode cX11_saveReachable 17 = .ok (.invokevirtual 191, 3) := by decide +kernel
theorem dX11_saveReachable_20 : decode cX11_saveReachable 20 = .ok (.aload_n 0, 1) := by decide +kernel
theorem dX11_saveReachable_21 : decode cX11_saveReachable 21 = .ok (.getfield 91, 3) := by decide +kernel
theorem dX11_saveReachable_24 : decode cX11_saveReachable 24 = .ok (.iload_n 1, 1) := by decide +kernel
theorem dX11_saveReachable_25 : decode cX11_saveReachable 25 = .ok (.aload_n 0, 1) := by decide +kernel
theorem dX11_saveReachable_26 : decode cX11_saveReachable 26 = .ok (.getfield 19, 3) := by decide +kernel
theorem dX11_saveReachable_29 : decode cX11_saveReachable 29 = .ok (.getfield 149, 3) := by decide +kernel
theorem dX11_saveReachable_32 : decode cX11_saveReachable 32 = .ok (.invokevirtual 318, 3) := by decide +kernel
theorem dX11_saveReachable_35 : decode cX11_saveReachable 35 = .ok (.iconst 0, 1) := by decide +kernel
theorem dX11_saveReachable_36 : decode cX11_saveReachable 36 = .ok (.istore_n 2, 1) := by decide +kernel
theorem dX11_saveReachable_37 : decode cX11_saveReachable 37 = .ok (.iload_n 2, 1) := by decide +kernel
theorem dX11_saveReachable_38 : decode cX11_saveReachable 38 = .ok (.aload_n 0, 1) := by decide +kernel
theorem dX11_saveReachable_39 : decode cX11_saveReachable 39 = .ok (.getfield 19, 3) := by decide +kernel
theorem dX11_saveReachable_42 : decode cX11_saveReachable 42 = .ok (.getfield 149, 3) := by decide +kernel
theorem dX11_saveReachable_45 : decode cX11_saveReachable 45 = .ok (.if_icmp .ge 27, 3) := by decide +kernel
theorem dX11_saveReachable_48 : decode cX11_saveReachable 48 = .ok (.aload_n 0, 1) := by decide +kernel
theorem dX11_saveReachable_49 : decode cX11_saveReachable 49 = .ok (.getfield 91, 3) := by decide +kernel
theorem dX11_saveReachable_52 : decode cX11_saveReachable 52 = .ok (.getfield 327, 3) := by decide +kernel
theorem dX11_saveReachable_55 : decode cX11_saveReachable 55 = .ok (.iload_n 1, 1) := by decide +kernel
theorem dX11_saveReachable_56 : decode cX11_saveReachable 56 = .ok (.aaload, 1) := by decide +kernel
theorem dX11_saveReachable_57 : decode cX11_saveReachable 57 = .ok (.iload_n 2, 1) := by decide +kernel
theorem dX11_saveReachable_58 : decode cX11_saveReachable 58 = .ok (.aload_n 0, 1) := by decide +kernel
theorem dX11_saveReachable_59 : decode cX11_saveReachable 59 = .ok (.getfield 95, 3) := by decide +kernel
theorem dX11_saveReachable_62 : decode cX11_saveReachable 62 = .ok (.iload_n 2, 1) := by decide +kernel
theorem dX11_saveReachable_63 : decode cX11_saveReachable 63 = .ok (.iaload, 1) := by decide +kernel
theorem dX11_saveReachable_64 : decode cX11_saveReachable 64 = .ok (.i2l, 1) := by decide +kernel
theorem dX11_saveReachable_65 : decode cX11_saveReachable 65 = .ok (.lastore, 1) := by decide +kernel
theorem dX11_saveReachable_66 : decode cX11_saveReachable 66 = .ok (.iinc 2 1, 3) := by decide +kernel
theorem dX11_saveReachable_69 : decode cX11_saveReachable 69 = .ok (.goto (-32), 3) := by decide +kernel
theorem dX11_saveReachable_72 : decode cX11_saveReachable 72 = .ok (.aload_n 0, 1) := by decide +kernel
theorem dX11_saveReachable_73 : decode cX11_saveReachable 73 = .ok (.getfield 19, 3) := by decide +kernel
theorem dX11_saveReachable_76 : decode cX11_saveReachable 76 = .ok (.getfield 149, 3) := by decide +kernel
theorem dX11_saveReachable_79 : decode cX11_saveReachable 79 = .ok (.ireturn, 1) := by decide +kernel
set_option maxRecDepth 20000 in
theorem ggX11_compareReachable_X11_isArray : GoodIn wsX11_compareReachable wsX11_isArray := goodIn_r _ [11] (by decide +kernel) (by decide +kernel)
set_option maxRecDepth 20000 in
theorem gX11_compareReachable_X11_isArray : GoodIn wsX11_compareReachable (va_wsS RX11 315 yX11_isArray wsX11_isArray) := goodIn_app (goodIn_of _ (by decide +kernel)) ggX11_compareReachable_X11_isArray
set_option maxRecDepth 20000 in
theorem ggX11_compareReachable_X5_isMissing : GoodIn wsX11_compareReachable wsX5_isMissing := goodIn_r _ [15, 16, 50, 51] (by decide +kernel) (by decide +kernel)
set_option maxRecDepth 20000 in
theorem gX11_compareReachable_X5_isMissing_n321 : GoodIn wsX11_compareReachable (wsX5_isMissing) := ggX11_compareReachable_X5_isMissing
set_option maxRecDepth 20000 in
theorem ggX11_compareReachable_X3_fillReach : GoodIn wsX11_compareReachable wsX3_fillReach := goodIn_r _ [20, 21, 22, 23, 24, 18, 25, 26, 27, 28, 29, 30, 31, 32, 33, 52, 53, 54, 55, 56, 57] (by decide +kernel) (by decide +kernel)
set_option maxRecDepth 20000 in
theorem gX11_compareReachable_X3_fillReach_n191 : GoodIn wsX11_compareReachable (wsX3_fillReach) := ggX11_compareReachable_X3_fillReach
theorem dX11_compareReachable_0 : decode cX11_compareReachable 0 = .ok (.iload_n 1, 1) := by decide +kernel
theorem dX11_compareReachable_1 : decode cX11_compareReachable 1 = .ok (.invokestatic 315, 3) := by decide +kernel
theorem dX11_compareReachable_4 : decode cX11_compareReachable 4 = .ok (.ifCond .ne 5, 3) := by decide +kernel
theorem dX11_compareReachable_7 : decode cX11_compareReachable 7 = .ok (.iconst (-1), 1) := by decide +kernel
theorem dX11_compareReachable_8 : decode cX11_compareReachable 8 = .ok (.ireturn, 1) := by decide +kernel
theorem dX11_compareReachable_9 : decode cX11_compareReachable 9 = .ok (.aload_n 0, 1) := by decide +kernel
theorem dX11_compareReachable_10 : decode cX11_compareReachable 10 = .ok (.getfield 91, 3) := by decide +kernel
theorem dX11_compareReachable_13 : decode cX11_compareReachable 13 = .ok (.iload_n 1, 1) := by decide +kernel
theorem dX11_compareReachable_14 : decode cX11_compareReachable 14 = .ok (.invokevirtual 321, 3) := by decide +kernel
theorem dX11_compareReachable_17 : decode cX11_compareReachable 17 = .ok (.ifCond .eq 6, 3) := by decide +kernel
theorem dX11_compareReachable_20 : decode cX11_compareReachable 20 = .ok (.bipush (-11), 2) := by decide +kernel
theorem dX11_compareReachable_22 : decode cX11_compareReachable 22 = .ok (.ireturn, 1) := by decide +kernel
theorem dX11_compareReachable_23 : decode cX11_compareReachable 23 = .ok (.aload_n 0, 1) := by decide +kernel
theorem dX11_compareReachable_24 : decode cX11_compareReachable 24 = .ok (.getfield 19, 3) := by decide +kernel
theorem dX11_compareReachable_27 : decode cX11_compareReachable 27 = .ok (.aload_n 0, 1) := by decide +kernel
theorem dX11_compareReachable_28 : decode cX11_compareReachable 28 = .ok (.getfield 95, 3) := by decide +kernel
theorem dX11_compareReachable_31 : decode cX11_compareReachable 31 = .ok (.invokevirtual 191, 3) := by decide +kernel
theorem dX11_compareReachable_34 : decode cX11_compareReachable 34 = .ok (.aload_n 0, 1) := by decide +kernel
theorem dX11_compareReachable_35 : decode cX11_compareReachable 35 = .ok (.getfield 91, 3) := by decide +kernel
theorem dX11_compareReachable_38 : decode cX11_compareReachable 38 = .ok (.getfield 335, 3) := by decide +kernel
theorem dX11_compareReachable_41 : decode cX11_compareReachable 41 = .ok (.iload_n 1, 1) := by decide +kernel
theorem dX11_compareReachable_42 : decode cX11_compareReachable 42 = .ok (.iaload, 1) := by decide +kernel
theorem dX11_compareReachable_43 : decode cX11_compareReachable 43 = .ok (.istore_n 2, 1) := by decide +kernel
theorem dX11_compareReachable_44 : decode cX11_compareReachable 44 = .ok (.iload_n 2, 1) := by decide +kernel
theorem dX11_compareReachable_45 : decode cX11_compareReachable 45 = .ok (.aload_n 0, 1) := by decide +kernel
theorem dX11_compareReachable_46 : decode cX11_compareReachable 46 = .ok (.getfield 19, 3) := by decide +kernel
theorem dX11_compareReachable_49 : decode cX11_compareReachable 49 = .ok (.getfield 149, 3) := by decide +kernel
theorem dX11_compareReachable_52 : decode cX11_compareReachable 52 = .ok (.invokestatic 338, 3) := by decide +kernel
theorem dX11_compareReachable_55 : decode cX11_compareReachable 55 = .ok (.istore_n 3, 1) := by decide +kernel
theorem dX11_compareReachable_56 : decode cX11_compareReachable 56 = .ok (.iconst 0, 1) := by decide +kernel
theorem dX11_compareReachable_57 : decode cX11_compareReachable 57 = .ok (.istore 4, 2) := by decide +kernel
theorem dX11_compareReachable_59 : decode cX11_compareReachable 59 = .ok (.iload 4, 2) := by decide +kernel
theorem dX11_compareReachable_61 : decode cX11_compareReachable 61 = .ok (.iload_n 3, 1) := by decide +kernel
theorem dX11_compareReachable_62 : decode cX11_compareReachable 62 = .ok (.if_icmp .ge 36, 3) := by decide +kernel
theorem dX11_compareReachable_65 : decode cX11_compareReachable 65 = .ok (.aload_n 0, 1) := by decide +kernel
theorem dX11_compareReachable_66 : decode cX11_compareReachable 66 = .ok (.getfield 91, 3) := by decide +kernel
theorem dX11_compareReachable_69 : decode cX11_compareReachable 69 = .ok (.getfield 327, 3) := by decide +kernel
theorem dX11_compareReachable_72 : decode cX11_compareReachable 72 = .ok (.iload_n 1, 1) := by decide +kernel
theorem dX11_compareReachable_73 : decode cX11_compareReachable 73 = .ok (.aaload, 1) := by decide +kernel
theorem dX11_compareReachable_74 : decode cX11_compareReachable 74 = .ok (.iload 4, 2) := by decide +kernel
theorem dX11_compareReachable_76 : decode cX11_compareReachable 76 = .ok (.laload, 1) := by decide +kernel
theorem dX11_compareReachable_77 : decode cX11_compareReachable 77 = .ok (.aload_n 0, 1) := by decide +kernel
theorem dX11_compareReachable_78 : decode cX11_compareReachable 78 = .ok (.getfield 95, 3) := by decide +kernel
theorem dX11_compareReachable_81 : decode cX11_compareReachable 81 = .ok (.iload 4, 2) := by decide +kernel
theorem dX11_compareReachable_83 : decode cX11_compareReachable 83 = .ok (.iaload, 1) := by decide +kernel
theorem dX11_compareReachable_84 : decode cX11_compareReachable 84 = .ok (.i2l, 1) := by decide +kernel
theorem dX11_compareReachable_85 : decode cX11_compareReachable 85 = .ok (.lcmp, 1) := by decide +kernel
theorem dX11_compareReachable_86 : decode cX11_compareReachable 86 = .ok (.ifCond .eq 6, 3) := by decide +kernel
theorem dX11_compareReachable_89 : decode cX11_compareReachable 89 = .ok (.iload 4, 2) := by decide +kernel
theorem dX11_compareReachable_91 : decode cX11_compareReachable 91 = .ok (.ireturn, 1) := by decide +kernel
theorem dX11_compareReachable_92 : decode cX11_compareReachable 92 = .ok (.iinc 4 1, 3) := by decide +kernel
theorem dX11_compareReachable_95 : decode cX11_compareReachable 95 = .ok (.goto (-36), 3) := by decide +kernel
theorem dX11_compareReachable_98 : decode cX11_compareReachable 98 = .ok (.iload_n 2, 1) := by decide +kernel
theorem dX11_compareReachable_99 : decode cX11_compareReachable 99 = .ok (.aload_n 0, 1) := by decide +kernel
theorem dX11_compareReachable_100 : decode cX11_compareReachable 100 = .ok (.getfield 19, 3) := by decide +kernel
theorem dX11_compareReachable_103 : decode cX11_compareReachable 103 = .ok (.getfield 149, 3) := by decide +kernel
theorem dX11_compareReachable_106 : decode cX11_compareReachable 106 = .ok (.if_icmp .ne 8, 3) := by decide +kernel
theorem dX11_compareReachable_109 : decode cX11_compareReachable 109 = .ok (.bipush (-2), 2) := by decide +kernel
theorem dX11_compareReachable_111 : decode cX11_compareReachable 111 = .ok (.goto 4, 3) := by decide +kernel
theorem dX11_compareReachable_114 : decode cX11_compareReachable 114 = .ok (.iload_n 3, 1) := by decide +kernel
theorem dX11_compareReachable_115 : decode cX11_compareReachable 115 = .ok (.ireturn, 1) := by decide +kernel
set_option maxRecDepth 20000 in
theorem ggX11_saveSnapshot_X3_copyFrom : GoodIn wsX11_saveSnapshot wsX3_copyFrom := goodIn_r _ [11, 12, 13, 14, 15, 16, 17, 18, 19, 20, 21, 53, 54, 55, 56, 57, 58] (by decide +kernel) (by decide +kernel)
set_option maxRecDepth 20000 in
theorem gX11_saveSnapshot_X3_copyFrom_n297 : GoodIn wsX11_saveSnapshot (wsX3_copyFrom) := ggX11_saveSnapshot_X3_copyFrom
set_option maxRecDepth 20000 in
theorem ggX11_saveSnapshot_X2_copyFrom : GoodIn wsX11_saveSnapshot wsX2_copyFrom := goodIn_r _ [25, 26, 27, 15, 16, 17, 28, 59, 60] (by decide +kernel) (by decide +kernel)
set_option maxRecDepth 20000 in
theorem gX11_saveSnapshot_X2_copyFrom_n343 : GoodIn wsX11_saveSnapshot (wsX2_copyFrom) := ggX11_saveSnapshot_X2_copyFrom
set_option maxRecDepth 20000 in
theorem ggX11_saveSnapshot_X8_copyFrom : GoodIn wsX11_saveSnapshot wsX8_copyFrom := goodIn_r _ [32, 33, 34, 35, 15, 16, 17, 36, 61, 62, 63] (by decide +kernel) (by decide +kernel)
set_option maxRecDepth 20000 in
theorem gX11_saveSnapshot_X8_copyFrom_n346 : GoodIn wsX11_saveSnapshot (wsX8_copyFrom) := ggX11_saveSnapshot_X8_copyFrom
theorem dX11_saveSnapshot_0 : decode cX11_saveSnapshot 0 = .ok (.aload_n 0, 1) := by decide +kernel
theorem dX11_saveSnapshot_1 : decode cX11_saveSnapshot 1 = .ok (.getfield 33, 3) := by decide +kernel
theorem dX11_saveSnapshot_4 : decode cX11_saveSnapshot 4 = .ok (.aload_n 0, 1) := by decide +kernel
theorem dX11_saveSnapshot_5 : decode cX11_saveSnapshot 5 = .ok (.getfield 19, 3) := by decide +kernel
theorem dX11_saveSnapshot_8 : decode cX11_saveSnapshot 8 = .ok (.invokevirtual 297, 3) := by decide +kernel
theorem dX11_saveSnapshot_11 : decode cX11_saveSnapshot 11 = .ok (.aload_n 0, 1) := by decide +kernel
theorem dX11_saveSnapshot_12 : decode cX11_saveSnapshot 12 = .ok (.getfield 30, 3) := by decide +kernel
theorem dX11_saveSnapshot_15 : decode cX11_saveSnapshot 15 = .ok (.aload_n 0, 1) := by decide +kernel
theorem dX11_saveSnapshot_16 : decode cX11_saveSnapshot 16 = .ok (.getfield 12, 3) := by decide +kernel
theorem dX11_saveSnapshot_19 : decode cX11_saveSnapshot 19 = .ok (.invokevirtual 343, 3) := by decide +kernel
theorem dX11_saveSnapshot_22 : decode cX11_saveSnapshot 22 = .ok (.aload_n 0, 1) := by decide +kernel
theorem dX11_saveSnapshot_23 : decode cX11_saveSnapshot 23 = .ok (.getfield 36, 3) := by decide +kernel
theorem dX11_saveSnapshot_26 : decode cX11_saveSnapshot 26 = .ok (.aload_n 0, 1) := by decide +kernel
theorem dX11_saveSnapshot_27 : decode cX11_saveSnapshot 27 = .ok (.getfield 26, 3) := by decide +kernel
theorem dX11_saveSnapshot_30 : decode cX11_saveSnapshot 30 = .ok (.invokevirtual 346, 3) := by decide +kernel
theorem dX11_saveSnapshot_33 : decode cX11_saveSnapshot 33 = .ok (.aload_n 0, 1) := by decide +kernel
theorem dX11_saveSnapshot_34 : decode cX11_saveSnapshot 34 = .ok (.iconst 1, 1) := by decide +kernel
theorem dX11_saveSnapshot_35 : decode cX11_saveSnapshot 35 = .ok (.putfield 39, 3) := by decide +kernel
theorem dX11_saveSnapshot_38 : decode cX11_saveSnapshot 38 = .ok (.aload_n 0, 1) := by decide +kernel
theorem dX11_saveSnapshot_39 : decode cX11_saveSnapshot 39 = .ok (.getfield 19, 3) := by decide +kernel
theorem dX11_saveSnapshot_42 : decode cX11_saveSnapshot 42 = .ok (.getfield 149, 3) := by decide +kernel
theorem dX11_saveSnapshot_45 : decode cX11_saveSnapshot 45 = .ok (.ireturn, 1) := by decide +kernel
set_option maxRecDepth 20000 in
theorem ggX11_restoreSnapshot_X3_copyFrom : GoodIn wsX11_restoreSnapshot wsX3_copyFrom := goodIn_r _ [11, 12, 13, 14, 15, 16, 17, 18, 19, 20, 21, 53, 54, 55, 56, 57, 58] (by decide +kernel) (by decide +kernel)
set_option maxRecDepth 20000 in
theorem gX11_restoreSnapshot_X3_copyFrom_n297 : GoodIn wsX11_restoreSnapshot (wsX3_copyFrom) := ggX11_restoreSnapshot_X3_copyFrom
set_option maxRecDepth 20000 in
theorem ggX11_restoreSnapshot_X2_copyFrom : GoodIn wsX11_restoreSnapshot wsX2_copyFrom := goodIn_r _ [25, 26, 27, 15, 16, 17, 28, 59, 60] (by decide +kernel) (by decide +kernel)
set_option maxRecDepth 20000 in
theorem gX11_restoreSnapshot_X2_copyFrom_n343 : GoodIn wsX11_restoreSnapshot (wsX2_copyFrom) := ggX11_restoreSnapshot_X2_copyFrom
set_option maxRecDepth 20000 in
theorem ggX11_restoreSnapshot_X8_copyFrom : GoodIn wsX11_restoreSnapshot wsX8_copyFrom := goodIn_r _ [32, 33, 34, 35, 15, 16, 17, 36, 61, 62, 63] (by decide +kernel) (by decide +kernel)
set_option maxRecDepth 20000 in
theorem gX11_restoreSnapshot_X8_copyFrom_n346 : GoodIn wsX11_restoreSnapshot (wsX8_copyFrom) := ggX11_restoreSnapshot_X8_copyFrom
theorem dX11_restoreSnapshot_0 : decode cX11_restoreSnapshot 0 = .ok (.aload_n 0, 1) := by decide +kernel
theorem dX11_restoreSnapshot_1 : decode cX11_restoreSnapshot 1 = .ok (.getfield 39, 3) := by decide +kernel
theorem dX11_restoreSnapshot_4 : decode cX11_restoreSnapshot 4 = .ok (.ifCond .ne 6, 3) := by decide +kernel
theorem dX11_restoreSnapshot_7 : decode cX11_restoreSnapshot 7 = .ok (.bipush (-2), 2) := by decide +kernel
theorem dX11_restoreSnapshot_9 : decode cX11_restoreSnapshot 9 = .ok (.ireturn, 1) := by decide +kernel
theorem dX11_restoreSnapshot_10 : decode cX11_restoreSnapshot 10 = .ok (.aload_n 0, 1) := by decide +kernel
theorem dX11_restoreSnapshot_11 : decode cX11_restoreSnapshot 11 = .ok (.getfield 19, 3) := by decide +kernel
theorem dX11_restoreSnapshot_14 : decode cX11_restoreSnapshot 14 = .ok (.aload_n 0, 1) := by decide +kernel
theorem dX11_restoreSnapshot_15 : decode cX11_restoreSnapshot 15 = .ok (.getfield 33, 3) := by decide +kernel
theorem dX11_restoreSnapshot_18 : decode cX11_restoreSnapshot 18 = .ok (.invokevirtual 297, 3) := by decide +kernel
theorem dX11_restoreSnapshot_21 : decode cX11_restoreSnapshot 21 = .ok (.aload_n 0, 1) := by decide +kernel
theorem dX11_restoreSnapshot_22 : decode cX11_restoreSnapshot 22 = .ok (.getfield 12, 3) := by decide +kernel
theorem dX11_restoreSnapshot_25 : decode cX11_restoreSnapshot 25 = .ok (.aload_n 0, 1) := by decide +kernel
theorem dX11_restoreSnapshot_26 : decode cX11_restoreSnapshot 26 = .ok (.getfield 30, 3) := by decide +kernel
theorem dX11_restoreSnapshot_29 : decode cX11_restoreSnapshot 29 = .ok (.invokevirtual 343, 3) := by decide +kernel
theorem dX11_restoreSnapshot_32 : decode cX11_restoreSnapshot 32 = .ok (.aload_n 0, 1) := by decide +kernel
theorem dX11_restoreSnapshot_33 : decode cX11_restoreSnapshot 33 = .ok (.getfield 26, 3) := by decide +kernel
theorem dX11_restoreSnapshot_36 : decode cX11_restoreSnapshot 36 = .ok (.aload_n 0, 1) := by decide +kernel
theorem dX11_restoreSnapshot_37 : decode cX11_restoreSnapshot 37 = .ok (.getfield 36, 3) := by decide +kernel
theorem dX11_restoreSnapshot_40 : decode cX11_restoreSnapshot 40 = .ok (.invokevirtual 346, 3) := by decide +kernel
theorem dX11_restoreSnapshot_43 : decode cX11_restoreSnapshot 43 = .ok (.aload_n 0, 1) := by decide +kernel
theorem dX11_restoreSnapshot_44 : decode cX11_restoreSnapshot 44 = .ok (.getfield 19, 3) := by decide +kernel
theorem dX11_restoreSnapshot_47 : decode cX11_restoreSnapshot 47 = .ok (.getfield 149, 3) := by decide +kernel
theorem dX11_restoreSnapshot_50 : decode cX11_restoreSnapshot 50 = .ok (.ireturn, 1) := by decide +kernel
theorem dX11_isLabel_0 : decode cX11_isLabel 0 = .ok (.iload_n 0, 1) := by decide +kernel
theorem dX11_isLabel_1 : decode cX11_isLabel 1 = .ok (.ifCond .lt 13, 3) := by decide +kernel
theorem dX11_isLabel_4 : decode cX11_isLabel 4 = .ok (.iload_n 0, 1) := by decide +kernel
theorem dX11_isLabel_5 : decode cX11_isLabel 5 = .ok (.bipush 8, 2) := by decide +kernel
theorem dX11_isLabel_7 : decode cX11_isLabel 7 = .ok (.if_icmp .ge 7, 3) := by decide +kernel
theorem dX11_isLabel_10 : decode cX11_isLabel 10 = .ok (.iconst 1, 1) := by decide +kernel
theorem dX11_isLabel_11 : decode cX11_isLabel 11 = .ok (.goto 4, 3) := by decide +kernel
theorem dX11_isLabel_14 : decode cX11_isLabel 14 = .ok (.iconst 0, 1) := by decide +kernel
theorem dX11_isLabel_15 : decode cX11_isLabel 15 = .ok (.ireturn, 1) := by decide +kernel
theorem dX11_isSide_0 : decode cX11_isSide 0 = .ok (.iload_n 0, 1) := by decide +kernel
theorem dX11_isSide_1 : decode cX11_isSide 1 = .ok (.ifCond .eq 8, 3) := by decide +kernel
theorem dX11_isSide_4 : decode cX11_isSide 4 = .ok (.iload_n 0, 1) := by decide +kernel
theorem dX11_isSide_5 : decode cX11_isSide 5 = .ok (.iconst 1, 1) := by decide +kernel
theorem dX11_isSide_6 : decode cX11_isSide 6 = .ok (.if_icmp .ne 7, 3) := by decide +kernel
theorem dX11_isSide_9 : decode cX11_isSide 9 = .ok (.iconst 1, 1) := by decide +kernel
theorem dX11_isSide_10 : decode cX11_isSide 10 = .ok (.goto 4, 3) := by decide +kernel
theorem dX11_isSide_13 : decode cX11_isSide 13 = .ok (.iconst 0, 1) := by decide +kernel
theorem dX11_isSide_14 : decode cX11_isSide 14 = .ok (.ireturn, 1) := by decide +kernel
theorem dX11_isArray_0 : decode cX11_isArray 0 = .ok (.iload_n 0, 1) := by decide +kernel
theorem dX11_isArray_1 : decode cX11_isArray 1 = .ok (.ifCond .lt 12, 3) := by decide +kernel
theorem dX11_isArray_4 : decode cX11_isArray 4 = .ok (.iload_n 0, 1) := by decide +kernel
theorem dX11_isArray_5 : decode cX11_isArray 5 = .ok (.iconst 3, 1) := by decide +kernel
theorem dX11_isArray_6 : decode cX11_isArray 6 = .ok (.if_icmp .ge 7, 3) := by decide +kernel
theorem dX11_isArray_9 : decode cX11_isArray 9 = .ok (.iconst 1, 1) := by decide +kernel
theorem dX11_isArray_10 : decode cX11_isArray 10 = .ok (.goto 4, 3) := by decide +kernel
theorem dX11_isArray_13 : decode cX11_isArray 13 = .ok (.iconst 0, 1) := by decide +kernel
theorem dX11_isArray_14 : decode cX11_isArray 14 = .ok (.ireturn, 1) := by decide +kernel
theorem dX11_isIn_0 : decode cX11_isIn 0 = .ok (.iload_n 0, 1) := by decide +kernel
theorem dX11_isIn_1 : decode cX11_isIn 1 = .ok (.iload_n 1, 1) := by decide +kernel
theorem dX11_isIn_2 : decode cX11_isIn 2 = .ok (.ishr, 1) := by decide +kernel
theorem dX11_isIn_3 : decode cX11_isIn 3 = .ok (.iconst 1, 1) := by decide +kernel
theorem dX11_isIn_4 : decode cX11_isIn 4 = .ok (.iand, 1) := by decide +kernel
theorem dX11_isIn_5 : decode cX11_isIn 5 = .ok (.ifCond .eq 7, 3) := by decide +kernel
theorem dX11_isIn_8 : decode cX11_isIn 8 = .ok (.iconst 1, 1) := by decide +kernel
theorem dX11_isIn_9 : decode cX11_isIn 9 = .ok (.goto 4, 3) := by decide +kernel
theorem dX11_isIn_12 : decode cX11_isIn 12 = .ok (.iconst 0, 1) := by decide +kernel
theorem dX11_isIn_13 : decode cX11_isIn 13 = .ok (.ireturn, 1) := by decide +kernel
set_option maxRecDepth 20000 in
theorem ggX11_lowestMember_J6_bitCount_0f7a4 : GoodIn wsX11_lowestMember wsJ6_bitCount_0f7a4 := goodIn_r _ [4, 5, 6, 7] (by decide +kernel) (by decide +kernel)
set_option maxRecDepth 20000 in
theorem gX11_lowestMember_J6_bitCount_0f7a4 : GoodIn wsX11_lowestMember (va_wsS RX11 174 yJ6_bitCount_0f7a4 wsJ6_bitCount_0f7a4) := goodIn_app (goodIn_of _ (by decide +kernel)) ggX11_lowestMember_J6_bitCount_0f7a4
theorem dX11_lowestMember_0 : decode cX11_lowestMember 0 = .ok (.iload_n 0, 1) := by decide +kernel
theorem dX11_lowestMember_1 : decode cX11_lowestMember 1 = .ok (.iload_n 0, 1) := by decide +kernel
theorem dX11_lowestMember_2 : decode cX11_lowestMember 2 = .ok (.ineg, 1) := by decide +kernel
theorem dX11_lowestMember_3 : decode cX11_lowestMember 3 = .ok (.iand, 1) := by decide +kernel
theorem dX11_lowestMember_4 : decode cX11_lowestMember 4 = .ok (.iconst 1, 1) := by decide +kernel
theorem dX11_lowestMember_5 : decode cX11_lowestMember 5 = .ok (.isub, 1) := by decide +kernel
theorem dX11_lowestMember_6 : decode cX11_lowestMember 6 = .ok (.invokestatic 174, 3) := by decide +kernel
theorem dX11_lowestMember_9 : decode cX11_lowestMember 9 = .ok (.ireturn, 1) := by decide +kernel
set_option maxRecDepth 20000 in
theorem ggX11_firstCounterexample_X3_fillReach : GoodIn wsX11_firstCounterexample wsX3_fillReach := goodIn_r _ [6, 7, 8, 9, 10, 4, 11, 12, 13, 14, 15, 16, 17, 18, 19, 44, 45, 46, 47, 48, 49] (by decide +kernel) (by decide +kernel)
set_option maxRecDepth 20000 in
theorem gX11_firstCounterexample_X3_fillReach_n191 : GoodIn wsX11_firstCounterexample (wsX3_fillReach) := ggX11_firstCounterexample_X3_fillReach
set_option maxRecDepth 20000 in
theorem ggX11_firstCounterexample_X11_unjoinablePair : GoodIn wsX11_firstCounterexample wsX11_unjoinablePair := goodIn_r _ [24, 1, 2, 25, 26, 23, 27, 28, 29, 30, 31, 32, 33, 34, 35, 36, 37, 38, 39, 40, 41, 42, 43, 44, 45, 46, 47, 48, 49] (by decide +kernel) (by decide +kernel)
set_option maxRecDepth 20000 in
theorem gX11_firstCounterexample_X11_unjoinablePair : GoodIn wsX11_firstCounterexample (wsV RX11 349 RX11 yX11_unjoinablePair wsX11_unjoinablePair) := goodIn_app (goodIn_of _ (by decide +kernel)) ggX11_firstCounterexample_X11_unjoinablePair
theorem dX11_firstCounterexample_0 : decode cX11_firstCounterexample 0 = .ok (.aload_n 0, 1) := by decide +kernel
theorem dX11_firstCounterexample_1 : decode cX11_firstCounterexample 1 = .ok (.getfield 19, 3) := by decide +kernel
theorem dX11_firstCounterexample_4 : decode cX11_firstCounterexample 4 = .ok (.aload_n 0, 1) := by decide +kernel
theorem dX11_firstCounterexample_5 : decode cX11_firstCounterexample 5 = .ok (.getfield 95, 3) := by decide +kernel
theorem dX11_firstCounterexample_8 : decode cX11_firstCounterexample 8 = .ok (.invokevirtual 191, 3) := by decide +kernel
theorem dX11_firstCounterexample_11 : decode cX11_firstCounterexample 11 = .ok (.iconst 0, 1) := by decide +kernel
theorem dX11_firstCounterexample_12 : decode cX11_firstCounterexample 12 = .ok (.istore_n 1, 1) := by decide +kernel
theorem dX11_firstCounterexample_13 : decode cX11_firstCounterexample 13 = .ok (.iload_n 1, 1) := by decide +kernel
theorem dX11_firstCounterexample_14 : decode cX11_firstCounterexample 14 = .ok (.aload_n 0, 1) := by decide +kernel
theorem dX11_firstCounterexample_15 : decode cX11_firstCounterexample 15 = .ok (.getfield 19, 3) := by decide +kernel
theorem dX11_firstCounterexample_18 : decode cX11_firstCounterexample 18 = .ok (.getfield 149, 3) := by decide +kernel
theorem dX11_firstCounterexample_21 : decode cX11_firstCounterexample 21 = .ok (.if_icmp .ge 34, 3) := by decide +kernel
theorem dX11_firstCounterexample_24 : decode cX11_firstCounterexample 24 = .ok (.aload_n 0, 1) := by decide +kernel
theorem dX11_firstCounterexample_25 : decode cX11_firstCounterexample 25 = .ok (.aload_n 0, 1) := by decide +kernel
theorem dX11_firstCounterexample_26 : decode cX11_firstCounterexample 26 = .ok (.getfield 95, 3) := by decide +kernel
theorem dX11_firstCounterexample_29 : decode cX11_firstCounterexample 29 = .ok (.iload_n 1, 1) := by decide +kernel
theorem dX11_firstCounterexample_30 : decode cX11_firstCounterexample 30 = .ok (.iaload, 1) := by decide +kernel
theorem dX11_firstCounterexample_31 : decode cX11_firstCounterexample 31 = .ok (.invokevirtual 349, 3) := by decide +kernel
theorem dX11_firstCounterexample_34 : decode cX11_firstCounterexample 34 = .ok (.istore_n 2, 1) := by decide +kernel
theorem dX11_firstCounterexample_35 : decode cX11_firstCounterexample 35 = .ok (.iload_n 2, 1) := by decide +kernel
theorem dX11_firstCounterexample_36 : decode cX11_firstCounterexample 36 = .ok (.bipush (-2), 2) := by decide +kernel
theorem dX11_firstCounterexample_38 : decode cX11_firstCounterexample 38 = .ok (.if_icmp .eq 11, 3) := by decide +kernel
theorem dX11_firstCounterexample_41 : decode cX11_firstCounterexample 41 = .ok (.sipush 256, 3) := by decide +kernel
theorem dX11_firstCounterexample_44 : decode cX11_firstCounterexample 44 = .ok (.iload_n 1, 1) := by decide +kernel
theorem dX11_firstCounterexample_45 : decode cX11_firstCounterexample 45 = .ok (.imul, 1) := by decide +kernel
theorem dX11_firstCounterexample_46 : decode cX11_firstCounterexample 46 = .ok (.iload_n 2, 1) := by decide +kernel
theorem dX11_firstCounterexample_47 : decode cX11_firstCounterexample 47 = .ok (.iadd, 1) := by decide +kernel
theorem dX11_firstCounterexample_48 : decode cX11_firstCounterexample 48 = .ok (.ireturn, 1) := by decide +kernel
theorem dX11_firstCounterexample_49 : decode cX11_firstCounterexample 49 = .ok (.iinc 1 1, 3) := by decide +kernel
theorem dX11_firstCounterexample_52 : decode cX11_firstCounterexample 52 = .ok (.goto (-39), 3) := by decide +kernel
theorem dX11_firstCounterexample_55 : decode cX11_firstCounterexample 55 = .ok (.bipush (-2), 2) := by decide +kernel
theorem dX11_firstCounterexample_57 : decode cX11_firstCounterexample 57 = .ok (.ireturn, 1) := by decide +kernel
set_option maxRecDepth 20000 in
theorem ggX11_unjoinablePair_X11_isIn : GoodIn wsX11_unjoinablePair wsX11_isIn := goodIn_r _ [6] (by decide +kernel) (by decide +kernel)
set_option maxRecDepth 20000 in
theorem gX11_unjoinablePair_X11_isIn : GoodIn wsX11_unjoinablePair (va_wsS RX11 161 yX11_isIn wsX11_isIn) := goodIn_app (goodIn_of _ (by decide +kernel)) ggX11_unjoinablePair_X11_isIn
theorem dX11_unjoinablePair_0 : decode cX11_unjoinablePair 0 = .ok (.iconst 0, 1) := by decide +kernel
theorem dX11_unjoinablePair_1 : decode cX11_unjoinablePair 1 = .ok (.istore_n 2, 1) := by decide +kernel
theorem dX11_unjoinablePair_2 : decode cX11_unjoinablePair 2 = .ok (.iload_n 2, 1) := by decide +kernel
theorem dX11_unjoinablePair_3 : decode cX11_unjoinablePair 3 = .ok (.aload_n 0, 1) := by decide +kernel
theorem dX11_unjoinablePair_4 : decode cX11_unjoinablePair 4 = .ok (.getfield 19, 3) := by decide +kernel
theorem dX11_unjoinablePair_7 : decode cX11_unjoinablePair 7 = .ok (.getfield 149, 3) := by decide +kernel
theorem dX11_unjoinablePair_10 : decode cX11_unjoinablePair 10 = .ok (.if_icmp .ge 69, 3) := by decide +kernel
theorem dX11_unjoinablePair_13 : decode cX11_unjoinablePair 13 = .ok (.iload_n 2, 1) := by decide +kernel
theorem dX11_unjoinablePair_14 : decode cX11_unjoinablePair 14 = .ok (.iconst 1, 1) := by decide +kernel
theorem dX11_unjoinablePair_15 : decode cX11_unjoinablePair 15 = .ok (.iadd, 1) := by decide +kernel
theorem dX11_unjoinablePair_16 : decode cX11_unjoinablePair 16 = .ok (.istore_n 3, 1) := by decide +kernel
theorem dX11_unjoinablePair_17 : decode cX11_unjoinablePair 17 = .ok (.iload_n 3, 1) := by decide +kernel
theorem dX11_unjoinablePair_18 : decode cX11_unjoinablePair 18 = .ok (.aload_n 0, 1) := by decide +kernel
theorem dX11_unjoinablePair_19 : decode cX11_unjoinablePair 19 = .ok (.getfield 19, 3) := by decide +kernel
theorem dX11_unjoinablePair_22 : decode cX11_unjoinablePair 22 = .ok (.getfield 149, 3) := by decide +kernel
theorem dX11_unjoinablePair_25 : decode cX11_unjoinablePair 25 = .ok (.if_icmp .ge 48, 3) := by decide +kernel
theorem dX11_unjoinablePair_28 : decode cX11_unjoinablePair 28 = .ok (.iload_n 1, 1) := by decide +kernel
theorem dX11_unjoinablePair_29 : decode cX11_unjoinablePair 29 = .ok (.iload_n 2, 1) := by decide +kernel
theorem dX11_unjoinablePair_30 : decode cX11_unjoinablePair 30 = .ok (.invokestatic 161, 3) := by decide +kernel
theorem dX11_unjoinablePair_33 : decode cX11_unjoinablePair 33 = .ok (.ifCond .eq 34, 3) := by decide +kernel
theorem dX11_unjoinablePair_36 : decode cX11_unjoinablePair 36 = .ok (.iload_n 1, 1) := by decide +kernel
theorem dX11_unjoinablePair_37 : decode cX11_unjoinablePair 37 = .ok (.iload_n 3, 1) := by decide +kernel
theorem dX11_unjoinablePair_38 : decode cX11_unjoinablePair 38 = .ok (.invokestatic 161, 3) := by decide +kernel
theorem dX11_unjoinablePair_41 : decode cX11_unjoinablePair 41 = .ok (.ifCond .eq 26, 3) := by decide +kernel
theorem dX11_unjoinablePair_44 : decode cX11_unjoinablePair 44 = .ok (.aload_n 0, 1) := by decide +kernel
theorem dX11_unjoinablePair_45 : decode cX11_unjoinablePair 45 = .ok (.getfield 95, 3) := by decide +kernel
theorem dX11_unjoinablePair_48 : decode cX11_unjoinablePair 48 = .ok (.iload_n 2, 1) := by decide +kernel
theorem dX11_unjoinablePair_49 : decode cX11_unjoinablePair 49 = .ok (.iaload, 1) := by decide +kernel
theorem dX11_unjoinablePair_50 : decode cX11_unjoinablePair 50 = .ok (.aload_n 0, 1) := by decide +kernel
theorem dX11_unjoinablePair_51 : decode cX11_unjoinablePair 51 = .ok (.getfield 95, 3) := by decide +kernel
theorem dX11_unjoinablePair_54 : decode cX11_unjoinablePair 54 = .ok (.iload_n 3, 1) := by decide +kernel
theorem dX11_unjoinablePair_55 : decode cX11_unjoinablePair 55 = .ok (.iaload, 1) := by decide +kernel
theorem dX11_unjoinablePair_56 : decode cX11_unjoinablePair 56 = .ok (.iand, 1) := by decide +kernel
theorem dX11_unjoinablePair_57 : decode cX11_unjoinablePair 57 = .ok (.ifCond .ne 10, 3) := by decide +kernel
theorem dX11_unjoinablePair_60 : decode cX11_unjoinablePair 60 = .ok (.bipush 16, 2) := by decide +kernel
theorem dX11_unjoinablePair_62 : decode cX11_unjoinablePair 62 = .ok (.iload_n 2, 1) := by decide +kernel
theorem dX11_unjoinablePair_63 : decode cX11_unjoinablePair 63 = .ok (.imul, 1) := by decide +kernel
theorem dX11_unjoinablePair_64 : decode cX11_unjoinablePair 64 = .ok (.iload_n 3, 1) := by decide +kernel
theorem dX11_unjoinablePair_65 : decode cX11_unjoinablePair 65 = .ok (.iadd, 1) := by decide +kernel
theorem dX11_unjoinablePair_66 : decode cX11_unjoinablePair 66 = .ok (.ireturn, 1) := by decide +kernel
theorem dX11_unjoinablePair_67 : decode cX11_unjoinablePair 67 = .ok (.iinc 3 1, 3) := by decide +kernel
theorem dX11_unjoinablePair_70 : decode cX11_unjoinablePair 70 = .ok (.goto (-53), 3) := by decide +kernel
theorem dX11_unjoinablePair_73 : decode cX11_unjoinablePair 73 = .ok (.iinc 2 1, 3) := by decide +kernel
theorem dX11_unjoinablePair_76 : decode cX11_unjoinablePair 76 = .ok (.goto (-74), 3) := by decide +kernel
theorem dX11_unjoinablePair_79 : decode cX11_unjoinablePair 79 = .ok (.bipush (-2), 2) := by decide +kernel
theorem dX11_unjoinablePair_81 : decode cX11_unjoinablePair 81 = .ok (.ireturn, 1) := by decide +kernel
set_option maxRecDepth 20000 in
theorem ggX11_findValley_X7_collect : GoodIn wsX11_findValley wsX7_collect := goodIn_r _ [10, 11, 12, 13, 77, 78, 79, 80, 81, 82, 83, 84, 85] (by decide +kernel) (by decide +kernel)
set_option maxRecDepth 20000 in
theorem gX11_findValley_X7_collect_n195 : GoodIn wsX11_findValley (wsX7_collect) := ggX11_findValley_X7_collect
set_option maxRecDepth 20000 in
theorem ggX11_findValley_X7_has : GoodIn wsX11_findValley wsX7_has := goodIn_r _ [16, 11, 77, 78, 79] (by decide +kernel) (by decide +kernel)
set_option maxRecDepth 20000 in
theorem gX11_findValley_X7_has_n208 : GoodIn wsX11_findValley (wsX7_has) := ggX11_findValley_X7_has
set_option maxRecDepth 20000 in
theorem ggX11_findValley_X9_search : GoodIn wsX11_findValley wsX9_search := goodIn_r _ [20, 21, 22, 23, 24, 25, 26, 27, 28, 29, 30, 31, 32, 18, 33, 34, 35, 36, 37, 38, 39, 40, 41, 42, 43, 44, 45, 46, 47, 48, 49, 50, 51, 52, 53, 80, 81, 82, 83, 84, 85, 86, 87, 88, 89, 90, 91, 92, 93, 94, 95, 96, 97] (by decide +kernel) (by decide +kernel)
set_option maxRecDepth 20000 in
theorem gX11_findValley_X9_search_n352 : GoodIn wsX11_findValley (wsX9_search) := ggX11_findValley_X9_search
set_option maxRecDepth 20000 in
theorem ggX11_findValley_X9_reaches : GoodIn wsX11_findValley wsX9_reaches := goodIn_r _ [56, 24, 86, 87, 88, 89, 90, 91, 92, 93, 94, 95] (by decide +kernel) (by decide +kernel)
set_option maxRecDepth 20000 in
theorem gX11_findValley_X9_reaches_n357 : GoodIn wsX11_findValley (wsX9_reaches) := ggX11_findValley_X9_reaches
set_option maxRecDepth 20000 in
theorem ggX11_findValley_X9_lengthTo : GoodIn wsX11_findValley wsX9_lengthTo := goodIn_r _ [59, 36, 24, 60, 54, 55, 18, 56, 86, 87, 88, 89, 90, 91, 92, 93, 94, 95] (by decide +kernel) (by decide +kernel)
set_option maxRecDepth 20000 in
theorem gX11_findValley_X9_lengthTo_n225 : GoodIn wsX11_findValley (wsX9_lengthTo) := ggX11_findValley_X9_lengthTo
theorem dX11_findValley_0 : decode cX11_findValley 0 = .ok (.aload_n 0, 1) := by decide +kernel
theorem dX11_findValley_1 : decode cX11_findValley 1 = .ok (.getfield 46, 3) := by decide +kernel
theorem dX11_findValley_4 : decode cX11_findValley 4 = .ok (.aload_n 0, 1) := by decide +kernel
theorem dX11_findValley_5 : decode cX11_findValley 5 = .ok (.getfield 19, 3) := by decide +kernel
theorem dX11_findValley_8 : decode cX11_findValley 8 = .ok (.invokevirtual 195, 3) := by decide +kernel
theorem dX11_findValley_11 : decode cX11_findValley 11 = .ok (.aload_n 0, 1) := by decide +kernel
theorem dX11_findValley_12 : decode cX11_findValley 12 = .ok (.getfield 46, 3) := by decide +kernel
theorem dX11_findValley_15 : decode cX11_findValley 15 = .ok (.iload_n 1, 1) := by decide +kernel
theorem dX11_findValley_16 : decode cX11_findValley 16 = .ok (.invokevirtual 208, 3) := by decide +kernel
theorem dX11_findValley_19 : decode cX11_findValley 19 = .ok (.ifCond .ne 5, 3) := by decide +kernel
theorem dX11_findValley_22 : decode cX11_findValley 22 = .ok (.iconst (-1), 1) := by decide +kernel
theorem dX11_findValley_23 : decode cX11_findValley 23 = .ok (.ireturn, 1) := by decide +kernel
theorem dX11_findValley_24 : decode cX11_findValley 24 = .ok (.aload_n 0, 1) := by decide +kernel
theorem dX11_findValley_25 : decode cX11_findValley 25 = .ok (.getfield 53, 3) := by decide +kernel
theorem dX11_findValley_28 : decode cX11_findValley 28 = .ok (.aload_n 0, 1) := by decide +kernel
theorem dX11_findValley_29 : decode cX11_findValley 29 = .ok (.getfield 19, 3) := by decide +kernel
theorem dX11_findValley_32 : decode cX11_findValley 32 = .ok (.aload_n 0, 1) := by decide +kernel
theorem dX11_findValley_33 : decode cX11_findValley 33 = .ok (.getfield 12, 3) := by decide +kernel
theorem dX11_findValley_36 : decode cX11_findValley 36 = .ok (.aload_n 0, 1) := by decide +kernel
theorem dX11_findValley_37 : decode cX11_findValley 37 = .ok (.getfield 46, 3) := by decide +kernel
theorem dX11_findValley_40 : decode cX11_findValley 40 = .ok (.getfield 202, 3) := by decide +kernel
theorem dX11_findValley_43 : decode cX11_findValley 43 = .ok (.iload_n 1, 1) := by decide +kernel
theorem dX11_findValley_44 : decode cX11_findValley 44 = .ok (.iaload, 1) := by decide +kernel
theorem dX11_findValley_45 : decode cX11_findValley 45 = .ok (.aload_n 0, 1) := by decide +kernel
theorem dX11_findValley_46 : decode cX11_findValley 46 = .ok (.getfield 46, 3) := by decide +kernel
theorem dX11_findValley_49 : decode cX11_findValley 49 = .ok (.getfield 205, 3) := by decide +kernel
theorem dX11_findValley_52 : decode cX11_findValley 52 = .ok (.iload_n 1, 1) := by decide +kernel
theorem dX11_findValley_53 : decode cX11_findValley 53 = .ok (.iaload, 1) := by decide +kernel
theorem dX11_findValley_54 : decode cX11_findValley 54 = .ok (.invokevirtual 352, 3) := by decide +kernel
theorem dX11_findValley_57 : decode cX11_findValley 57 = .ok (.aload_n 0, 1) := by decide +kernel
theorem dX11_findValley_58 : decode cX11_findValley 58 = .ok (.getfield 57, 3) := by decide +kernel
theorem dX11_findValley_61 : decode cX11_findValley 61 = .ok (.aload_n 0, 1) := by decide +kernel
theorem dX11_findValley_62 : decode cX11_findValley 62 = .ok (.getfield 19, 3) := by decide +kernel
theorem dX11_findValley_65 : decode cX11_findValley 65 = .ok (.aload_n 0, 1) := by decide +kernel
theorem dX11_findValley_66 : decode cX11_findValley 66 = .ok (.getfield 12, 3) := by decide +kernel
theorem dX11_findValley_69 : decode cX11_findValley 69 = .ok (.aload_n 0, 1) := by decide +kernel
theorem dX11_findValley_70 : decode cX11_findValley 70 = .ok (.getfield 46, 3) := by decide +kernel
theorem dX11_findValley_73 : decode cX11_findValley 73 = .ok (.getfield 205, 3) := by decide +kernel
theorem dX11_findValley_76 : decode cX11_findValley 76 = .ok (.iload_n 1, 1) := by decide +kernel
theorem dX11_findValley_77 : decode cX11_findValley 77 = .ok (.iaload, 1) := by decide +kernel
theorem dX11_findValley_78 : decode cX11_findValley 78 = .ok (.aload_n 0, 1) := by decide +kernel
theorem dX11_findValley_79 : decode cX11_findValley 79 = .ok (.getfield 46, 3) := by decide +kernel
theorem dX11_findValley_82 : decode cX11_findValley 82 = .ok (.getfield 202, 3) := by decide +kernel
theorem dX11_findValley_85 : decode cX11_findValley 85 = .ok (.iload_n 1, 1) := by decide +kernel
theorem dX11_findValley_86 : decode cX11_findValley 86 = .ok (.iaload, 1) := by decide +kernel
theorem dX11_findValley_87 : decode cX11_findValley 87 = .ok (.invokevirtual 352, 3) := by decide +kernel
theorem dX11_findValley_90 : decode cX11_findValley 90 = .ok (.bipush (-2), 2) := by decide +kernel
theorem dX11_findValley_92 : decode cX11_findValley 92 = .ok (.istore_n 2, 1) := by decide +kernel
theorem dX11_findValley_93 : decode cX11_findValley 93 = .ok (.ldc_w 356, 3) := by decide +kernel
theorem dX11_findValley_96 : decode cX11_findValley 96 = .ok (.istore_n 3, 1) := by decide +kernel
theorem dX11_findValley_97 : decode cX11_findValley 97 = .ok (.iconst 0, 1) := by decide +kernel
theorem dX11_findValley_98 : decode cX11_findValley 98 = .ok (.istore 4, 2) := by decide +kernel
theorem dX11_findValley_100 : decode cX11_findValley 100 = .ok (.iload 4, 2) := by decide +kernel
theorem dX11_findValley_102 : decode cX11_findValley 102 = .ok (.aload_n 0, 1) := by decide +kernel
theorem dX11_findValley_103 : decode cX11_findValley 103 = .ok (.getfield 19, 3) := by decide +kernel
theorem dX11_findValley_106 : decode cX11_findValley 106 = .ok (.getfield 149, 3) := by decide +kernel
theorem dX11_findValley_109 : decode cX11_findValley 109 = .ok (.if_icmp .ge 66, 3) := by decide +kernel
theorem dX11_findValley_112 : decode cX11_findValley 112 = .ok (.aload_n 0, 1) := by decide +kernel
theorem dX11_findValley_113 : decode cX11_findValley 113 = .ok (.getfield 53, 3) := by decide +kernel
theorem dX11_findValley_116 : decode cX11_findValley 116 = .ok (.iload 4, 2) := by decide +kernel
theorem dX11_findValley_118 : decode cX11_findValley 118 = .ok (.invokevirtual 357, 3) := by decide +kernel
theorem dX11_findValley_121 : decode cX11_findValley 121 = .ok (.ifCond .eq 48, 3) := by decide +kernel
theorem dX11_findValley_124 : decode cX11_findValley 124 = .ok (.aload_n 0, 1) := by decide +kernel
theorem dX11_findValley_125 : decode cX11_findValley 125 = .ok (.getfield 57, 3) := by decide +kernel
theorem dX11_findValley_128 : decode cX11_findValley 128 = .ok (.iload 4, 2) := by decide +kernel
theorem dX11_findValley_130 : decode cX11_findValley 130 = .ok (.invokevirtual 357, 3) := by decide +kernel
theorem dX11_findValley_133 : decode cX11_findValley 133 = .ok (.ifCond .eq 36, 3) := by decide +kernel
theorem dX11_findValley_136 : decode cX11_findValley 136 = .ok (.aload_n 0, 1) := by decide +kernel
theorem dX11_findValley_137 : decode cX11_findValley 137 = .ok (.getfield 53, 3) := by decide +kernel
theorem dX11_findValley_140 : decode cX11_findValley 140 = .ok (.iload 4, 2) := by decide +kernel
theorem dX11_findValley_142 : decode cX11_findValley 142 = .ok (.invokevirtual 225, 3) := by decide +kernel
theorem dX11_findValley_145 : decode cX11_findValley 145 = .ok (.aload_n 0, 1) := by decide +kernel
theorem dX11_findValley_146 : decode cX11_findValley 146 = .ok (.getfield 57, 3) := by decide +kernel
theorem dX11_findValley_149 : decode cX11_findValley 149 = .ok (.iload 4, 2) := by decide +kernel
theorem dX11_findValley_151 : decode cX11_findValley 151 = .ok (.invokevirtual 225, 3) := by decide +kernel
theorem dX11_findValley_154 : decode cX11_findValley 154 = .ok (.iadd, 1) := by decide +kernel
theorem dX11_findValley_155 : decode cX11_findValley 155 = .ok (.istore 5, 2) := by decide +kernel
theorem dX11_findValley_157 : decode cX11_findValley 157 = .ok (.iload 5, 2) := by decide +kernel
theorem dX11_findValley_159 : decode cX11_findValley 159 = .ok (.iload_n 3, 1) := by decide +kernel
theorem dX11_findValley_160 : decode cX11_findValley 160 = .ok (.if_icmp .ge 9, 3) := by decide +kernel
theorem dX11_findValley_163 : decode cX11_findValley 163 = .ok (.iload 5, 2) := by decide +kernel
theorem dX11_findValley_165 : decode cX11_findValley 165 = .ok (.istore_n 3, 1) := by decide +kernel
theorem dX11_findValley_166 : decode cX11_findValley 166 = .ok (.iload 4, 2) := by decide +kernel
theorem dX11_findValley_168 : decode cX11_findValley 168 = .ok (.istore_n 2, 1) := by decide +kernel
theorem dX11_findValley_169 : decode cX11_findValley 169 = .ok (.iinc 4 1, 3) := by decide +kernel
theorem dX11_findValley_172 : decode cX11_findValley 172 = .ok (.goto (-72), 3) := by decide +kernel
theorem dX11_findValley_175 : decode cX11_findValley 175 = .ok (.iload_n 2, 1) := by decide +kernel
theorem dX11_findValley_176 : decode cX11_findValley 176 = .ok (.ireturn, 1) := by decide +kernel
theorem dX11_pathsOf_0 : decode cX11_pathsOf 0 = .ok (.iload_n 1, 1) := by decide +kernel
theorem dX11_pathsOf_1 : decode cX11_pathsOf 1 = .ok (.ifCond .ne 10, 3) := by decide +kernel
theorem dX11_pathsOf_4 : decode cX11_pathsOf 4 = .ok (.aload_n 0, 1) := by decide +kernel
theorem dX11_pathsOf_5 : decode cX11_pathsOf 5 = .ok (.getfield 53, 3) := by decide +kernel
theorem dX11_pathsOf_8 : decode cX11_pathsOf 8 = .ok (.goto 7, 3) := by decide +kernel
theorem dX11_pathsOf_11 : decode cX11_pathsOf 11 = .ok (.aload_n 0, 1) := by decide +kernel
theorem dX11_pathsOf_12 : decode cX11_pathsOf 12 = .ok (.getfield 57, 3) := by decide +kernel
theorem dX11_pathsOf_15 : decode cX11_pathsOf 15 = .ok (.areturn, 1) := by decide +kernel
set_option maxRecDepth 20000 in
theorem ggX11_writePeak_X6_putNumber : GoodIn wsX11_writePeak wsX6_putNumber := goodIn_r _ [6, 7, 8, 9, 4, 10, 11, 12, 35, 36] (by decide +kernel) (by decide +kernel)
set_option maxRecDepth 20000 in
theorem gX11_writePeak_X6_putNumber_n360 : GoodIn wsX11_writePeak (wsX6_putNumber) := ggX11_writePeak_X6_putNumber
set_option maxRecDepth 20000 in
theorem ggX11_writePeak_X6_putSign : GoodIn wsX11_writePeak wsX6_putSign := goodIn_r _ [10, 11, 12, 35, 36] (by decide +kernel) (by decide +kernel)
set_option maxRecDepth 20000 in
theorem gX11_writePeak_X6_putSign_n239 : GoodIn wsX11_writePeak (wsX6_putSign) := ggX11_writePeak_X6_putSign
theorem dX11_writePeak_0 : decode cX11_writePeak 0 = .ok (.aload_n 0, 1) := by decide +kernel
theorem dX11_writePeak_1 : decode cX11_writePeak 1 = .ok (.getfield 63, 3) := by decide +kernel
theorem dX11_writePeak_4 : decode cX11_writePeak 4 = .ok (.aload_n 0, 1) := by decide +kernel
theorem dX11_writePeak_5 : decode cX11_writePeak 5 = .ok (.getfield 19, 3) := by decide +kernel
theorem dX11_writePeak_8 : decode cX11_writePeak 8 = .ok (.getfield 158, 3) := by decide +kernel
theorem dX11_writePeak_11 : decode cX11_writePeak 11 = .ok (.iload_n 1, 1) := by decide +kernel
theorem dX11_writePeak_12 : decode cX11_writePeak 12 = .ok (.iaload, 1) := by decide +kernel
theorem dX11_writePeak_13 : decode cX11_writePeak 13 = .ok (.invokevirtual 360, 3) := by decide +kernel
theorem dX11_writePeak_16 : decode cX11_writePeak 16 = .ok (.aload_n 0, 1) := by decide +kernel
theorem dX11_writePeak_17 : decode cX11_writePeak 17 = .ok (.getfield 63, 3) := by decide +kernel
theorem dX11_writePeak_20 : decode cX11_writePeak 20 = .ok (.bipush 60, 2) := by decide +kernel
theorem dX11_writePeak_22 : decode cX11_writePeak 22 = .ok (.invokevirtual 239, 3) := by decide +kernel
theorem dX11_writePeak_25 : decode cX11_writePeak 25 = .ok (.aload_n 0, 1) := by decide +kernel
theorem dX11_writePeak_26 : decode cX11_writePeak 26 = .ok (.getfield 63, 3) := by decide +kernel
theorem dX11_writePeak_29 : decode cX11_writePeak 29 = .ok (.iload_n 1, 1) := by decide +kernel
theorem dX11_writePeak_30 : decode cX11_writePeak 30 = .ok (.invokevirtual 360, 3) := by decide +kernel
theorem dX11_writePeak_33 : decode cX11_writePeak 33 = .ok (.aload_n 0, 1) := by decide +kernel
theorem dX11_writePeak_34 : decode cX11_writePeak 34 = .ok (.getfield 63, 3) := by decide +kernel
theorem dX11_writePeak_37 : decode cX11_writePeak 37 = .ok (.bipush 45, 2) := by decide +kernel
theorem dX11_writePeak_39 : decode cX11_writePeak 39 = .ok (.invokevirtual 239, 3) := by decide +kernel
theorem dX11_writePeak_42 : decode cX11_writePeak 42 = .ok (.aload_n 0, 1) := by decide +kernel
theorem dX11_writePeak_43 : decode cX11_writePeak 43 = .ok (.getfield 63, 3) := by decide +kernel
theorem dX11_writePeak_46 : decode cX11_writePeak 46 = .ok (.aload_n 0, 1) := by decide +kernel
theorem dX11_writePeak_47 : decode cX11_writePeak 47 = .ok (.getfield 19, 3) := by decide +kernel
theorem dX11_writePeak_50 : decode cX11_writePeak 50 = .ok (.getfield 155, 3) := by decide +kernel
theorem dX11_writePeak_53 : decode cX11_writePeak 53 = .ok (.iload_n 1, 1) := by decide +kernel
theorem dX11_writePeak_54 : decode cX11_writePeak 54 = .ok (.iaload, 1) := by decide +kernel
theorem dX11_writePeak_55 : decode cX11_writePeak 55 = .ok (.invokevirtual 360, 3) := by decide +kernel
theorem dX11_writePeak_58 : decode cX11_writePeak 58 = .ok (.aload_n 0, 1) := by decide +kernel
theorem dX11_writePeak_59 : decode cX11_writePeak 59 = .ok (.getfield 63, 3) := by decide +kernel
theorem dX11_writePeak_62 : decode cX11_writePeak 62 = .ok (.bipush 45, 2) := by decide +kernel
theorem dX11_writePeak_64 : decode cX11_writePeak 64 = .ok (.invokevirtual 239, 3) := by decide +kernel
theorem dX11_writePeak_67 : decode cX11_writePeak 67 = .ok (.aload_n 0, 1) := by decide +kernel
theorem dX11_writePeak_68 : decode cX11_writePeak 68 = .ok (.getfield 63, 3) := by decide +kernel
theorem dX11_writePeak_71 : decode cX11_writePeak 71 = .ok (.iload_n 2, 1) := by decide +kernel
theorem dX11_writePeak_72 : decode cX11_writePeak 72 = .ok (.invokevirtual 360, 3) := by decide +kernel
theorem dX11_writePeak_75 : decode cX11_writePeak 75 = .ok (.aload_n 0, 1) := by decide +kernel
theorem dX11_writePeak_76 : decode cX11_writePeak 76 = .ok (.getfield 63, 3) := by decide +kernel
theorem dX11_writePeak_79 : decode cX11_writePeak 79 = .ok (.bipush 62, 2) := by decide +kernel
theorem dX11_writePeak_81 : decode cX11_writePeak 81 = .ok (.invokevirtual 239, 3) := by decide +kernel
theorem dX11_writePeak_84 : decode cX11_writePeak 84 = .ok (.aload_n 0, 1) := by decide +kernel
theorem dX11_writePeak_85 : decode cX11_writePeak 85 = .ok (.getfield 63, 3) := by decide +kernel
theorem dX11_writePeak_88 : decode cX11_writePeak 88 = .ok (.aload_n 0, 1) := by decide +kernel
theorem dX11_writePeak_89 : decode cX11_writePeak 89 = .ok (.getfield 19, 3) := by decide +kernel
theorem dX11_writePeak_92 : decode cX11_writePeak 92 = .ok (.getfield 158, 3) := by decide +kernel
theorem dX11_writePeak_95 : decode cX11_writePeak 95 = .ok (.iload_n 2, 1) := by decide +kernel
theorem dX11_writePeak_96 : decode cX11_writePeak 96 = .ok (.iaload, 1) := by decide +kernel
theorem dX11_writePeak_97 : decode cX11_writePeak 97 = .ok (.invokevirtual 360, 3) := by decide +kernel
theorem dX11_writePeak_100 : decode cX11_writePeak 100 = .ok (.return_, 1) := by decide +kernel
set_option maxRecDepth 20000 in
theorem ggX11_writePath_X9_lengthTo : GoodIn wsX11_writePath wsX9_lengthTo := goodIn_r _ [5, 6, 7, 8, 9, 10, 3, 11, 44, 45, 46, 47, 48, 49, 50, 51, 52, 53] (by decide +kernel) (by decide +kernel)
set_option maxRecDepth 20000 in
theorem gX11_writePath_X9_lengthTo_n225 : GoodIn wsX11_writePath (wsX9_lengthTo) := ggX11_writePath_X9_lengthTo
set_option maxRecDepth 20000 in
theorem ggX11_writePath_X6_putSign : GoodIn wsX11_writePath wsX6_putSign := goodIn_r _ [15, 16, 17, 54, 55] (by decide +kernel) (by decide +kernel)
set_option maxRecDepth 20000 in
theorem gX11_writePath_X6_putSign_n239 : GoodIn wsX11_writePath (wsX6_putSign) := ggX11_writePath_X6_putSign
set_option maxRecDepth 20000 in
theorem ggX11_writePath_X9_stepTo : GoodIn wsX11_writePath wsX9_stepTo := goodIn_r _ [20, 7, 21, 22, 23, 2, 4, 3, 5, 6, 8, 9, 10, 11, 44, 45, 46, 47, 48, 49, 50, 51, 52, 53] (by decide +kernel) (by decide +kernel)
set_option maxRecDepth 20000 in
theorem gX11_writePath_X9_stepTo_n228 : GoodIn wsX11_writePath (wsX9_stepTo) := ggX11_writePath_X9_stepTo
set_option maxRecDepth 20000 in
theorem ggX11_writePath_X6_putNumber : GoodIn wsX11_writePath wsX6_putNumber := goodIn_r _ [26, 27, 12, 14, 13, 15, 16, 17, 54, 55] (by decide +kernel) (by decide +kernel)
set_option maxRecDepth 20000 in
theorem gX11_writePath_X6_putNumber_n360 : GoodIn wsX11_writePath (wsX6_putNumber) := ggX11_writePath_X6_putNumber
theorem dX11_writePath_0 : decode cX11_writePath 0 = .ok (.aload_n 1, 1) := by decide +kernel
theorem dX11_writePath_1 : decode cX11_writePath 1 = .ok (.iload_n 2, 1) := by decide +kernel
theorem dX11_writePath_2 : decode cX11_writePath 2 = .ok (.invokevirtual 225, 3) := by decide +kernel
theorem dX11_writePath_5 : decode cX11_writePath 5 = .ok (.istore_n 3, 1) := by decide +kernel
theorem dX11_writePath_6 : decode cX11_writePath 6 = .ok (.iconst 0, 1) := by decide +kernel
theorem dX11_writePath_7 : decode cX11_writePath 7 = .ok (.istore 4, 2) := by decide +kernel
theorem dX11_writePath_9 : decode cX11_writePath 9 = .ok (.iload 4, 2) := by decide +kernel
theorem dX11_writePath_11 : decode cX11_writePath 11 = .ok (.iload_n 3, 1) := by decide +kernel
theorem dX11_writePath_12 : decode cX11_writePath 12 = .ok (.if_icmp .ge 32, 3) := by decide +kernel
theorem dX11_writePath_15 : decode cX11_writePath 15 = .ok (.aload_n 0, 1) := by decide +kernel
theorem dX11_writePath_16 : decode cX11_writePath 16 = .ok (.getfield 63, 3) := by decide +kernel
theorem dX11_writePath_19 : decode cX11_writePath 19 = .ok (.bipush 46, 2) := by decide +kernel
theorem dX11_writePath_21 : decode cX11_writePath 21 = .ok (.invokevirtual 239, 3) := by decide +kernel
theorem dX11_writePath_24 : decode cX11_writePath 24 = .ok (.aload_n 0, 1) := by decide +kernel
theorem dX11_writePath_25 : decode cX11_writePath 25 = .ok (.getfield 63, 3) := by decide +kernel
theorem dX11_writePath_28 : decode cX11_writePath 28 = .ok (.aload_n 1, 1) := by decide +kernel
theorem dX11_writePath_29 : decode cX11_writePath 29 = .ok (.iload_n 2, 1) := by decide +kernel
theorem dX11_writePath_30 : decode cX11_writePath 30 = .ok (.iload 4, 2) := by decide +kernel
theorem dX11_writePath_32 : decode cX11_writePath 32 = .ok (.invokevirtual 228, 3) := by decide +kernel
theorem dX11_writePath_35 : decode cX11_writePath 35 = .ok (.invokevirtual 360, 3) := by decide +kernel
theorem dX11_writePath_38 : decode cX11_writePath 38 = .ok (.iinc 4 1, 3) := by decide +kernel
theorem dX11_writePath_41 : decode cX11_writePath 41 = .ok (.goto (-32), 3) := by decide +kernel
theorem dX11_writePath_44 : decode cX11_writePath 44 = .ok (.return_, 1) := by decide +kernel
theorem dX11_searchError_0 : decode cX11_searchError 0 = .ok (.iload_n 1, 1) := by decide +kernel
theorem dX11_searchError_1 : decode cX11_searchError 1 = .ok (.iconst 1, 1) := by decide +kernel
theorem dX11_searchError_2 : decode cX11_searchError 2 = .ok (.if_icmp .lt 8, 3) := by decide +kernel
theorem dX11_searchError_5 : decode cX11_searchError 5 = .ok (.iload_n 1, 1) := by decide +kernel
theorem dX11_searchError_6 : decode cX11_searchError 6 = .ok (.iconst 3, 1) := by decide +kernel
theorem dX11_searchError_7 : decode cX11_searchError 7 = .ok (.if_icmp .le 5, 3) := by decide +kernel
theorem dX11_searchError_10 : decode cX11_searchError 10 = .ok (.iconst (-1), 1) := by decide +kernel
theorem dX11_searchError_11 : decode cX11_searchError 11 = .ok (.ireturn, 1) := by decide +kernel
theorem dX11_searchError_12 : decode cX11_searchError 12 = .ok (.aload_n 0, 1) := by decide +kernel
theorem dX11_searchError_13 : decode cX11_searchError 13 = .ok (.getfield 19, 3) := by decide +kernel
theorem dX11_searchError_16 : decode cX11_searchError 16 = .ok (.getfield 142, 3) := by decide +kernel
theorem dX11_searchError_19 : decode cX11_searchError 19 = .ok (.bipush 8, 2) := by decide +kernel
theorem dX11_searchError_21 : decode cX11_searchError 21 = .ok (.if_icmp .le 8, 3) := by decide +kernel
theorem dX11_searchError_24 : decode cX11_searchError 24 = .ok (.bipush (-5), 2) := by decide +kernel
theorem dX11_searchError_26 : decode cX11_searchError 26 = .ok (.goto 4, 3) := by decide +kernel
theorem dX11_searchError_29 : decode cX11_searchError 29 = .ok (.iconst 0, 1) := by decide +kernel
theorem dX11_searchError_30 : decode cX11_searchError 30 = .ok (.ireturn, 1) := by decide +kernel
theorem dX12_init_0 : decode cX12_init 0 = .ok (.aload_n 0, 1) := by decide +kernel
theorem dX12_init_1 : decode cX12_init 1 = .ok (.invokespecial 1, 3) := by decide +kernel
theorem dX12_init_4 : decode cX12_init 4 = .ok (.aload_n 0, 1) := by decide +kernel
theorem dX12_init_5 : decode cX12_init 5 = .ok (.bipush 8, 2) := by decide +kernel
theorem dX12_init_7 : decode cX12_init 7 = .ok (.bipush 8, 2) := by decide +kernel
theorem dX12_init_9 : decode cX12_init 9 = .ok (.multianewarray 9 2, 4) := by decide +kernel
theorem dX12_init_13 : decode cX12_init 13 = .ok (.putfield 11, 3) := by decide +kernel
theorem dX12_init_16 : decode cX12_init 16 = .ok (.aload_n 0, 1) := by decide +kernel
theorem dX12_init_17 : decode cX12_init 17 = .ok (.bipush 8, 2) := by decide +kernel
theorem dX12_init_19 : decode cX12_init 19 = .ok (.bipush 8, 2) := by decide +kernel
theorem dX12_init_21 : decode cX12_init 21 = .ok (.multianewarray 9 2, 4) := by decide +kernel
theorem dX12_init_25 : decode cX12_init 25 = .ok (.putfield 14, 3) := by decide +kernel
theorem dX12_init_28 : decode cX12_init 28 = .ok (.aload_n 0, 1) := by decide +kernel
theorem dX12_init_29 : decode cX12_init 29 = .ok (.bipush 32, 2) := by decide +kernel
theorem dX12_init_31 : decode cX12_init 31 = .ok (.newarray .int, 2) := by decide +kernel
theorem dX12_init_33 : decode cX12_init 33 = .ok (.putfield 17, 3) := by decide +kernel
theorem dX12_init_36 : decode cX12_init 36 = .ok (.aload_n 0, 1) := by decide +kernel
theorem dX12_init_37 : decode cX12_init 37 = .ok (.bipush 32, 2) := by decide +kernel
theorem dX12_init_39 : decode cX12_init 39 = .ok (.newarray .int, 2) := by decide +kernel
theorem dX12_init_41 : decode cX12_init 41 = .ok (.putfield 21, 3) := by decide +kernel
theorem dX12_init_44 : decode cX12_init 44 = .ok (.aload_n 0, 1) := by decide +kernel
theorem dX12_init_45 : decode cX12_init 45 = .ok (.bipush 32, 2) := by decide +kernel
theorem dX12_init_47 : decode cX12_init 47 = .ok (.newarray .int, 2) := by decide +kernel
theorem dX12_init_49 : decode cX12_init 49 = .ok (.putfield 24, 3) := by decide +kernel
theorem dX12_init_52 : decode cX12_init 52 = .ok (.aload_n 0, 1) := by decide +kernel
theorem dX12_init_53 : decode cX12_init 53 = .ok (.bipush 16, 2) := by decide +kernel
theorem dX12_init_55 : decode cX12_init 55 = .ok (.newarray .int, 2) := by decide +kernel
theorem dX12_init_57 : decode cX12_init 57 = .ok (.putfield 27, 3) := by decide +kernel
theorem dX12_init_60 : decode cX12_init 60 = .ok (.aload_n 0, 1) := by decide +kernel
theorem dX12_init_61 : decode cX12_init 61 = .ok (.bipush 16, 2) := by decide +kernel
theorem dX12_init_63 : decode cX12_init 63 = .ok (.bipush 8, 2) := by decide +kernel
theorem dX12_init_65 : decode cX12_init 65 = .ok (.multianewarray 30 2, 4) := by decide +kernel
theorem dX12_init_69 : decode cX12_init 69 = .ok (.putfield 32, 3) := by decide +kernel
theorem dX12_init_72 : decode cX12_init 72 = .ok (.aload_n 0, 1) := by decide +kernel
theorem dX12_init_73 : decode cX12_init 73 = .ok (.bipush 16, 2) := by decide +kernel
theorem dX12_init_75 : decode cX12_init 75 = .ok (.bipush 16, 2) := by decide +kernel
theorem dX12_init_77 : decode cX12_init 77 = .ok (.multianewarray 30 2, 4) := by decide +kernel
theorem dX12_init_81 : decode cX12_init 81 = .ok (.putfield 35, 3) := by decide +kernel
theorem dX12_init_84 : decode cX12_init 84 = .ok (.aload_n 0, 1) := by decide +kernel
theorem dX12_init_85 : decode cX12_init 85 = .ok (.bipush 16, 2) := by decide +kernel
theorem dX12_init_87 : decode cX12_init 87 = .ok (.newarray .int, 2) := by decide +kernel
theorem dX12_init_89 : decode cX12_init 89 = .ok (.putfield 38, 3) := by decide +kernel
theorem dX12_init_92 : decode cX12_init 92 = .ok (.aload_n 0, 1) := by decide +kernel
theorem dX12_init_93 : decode cX12_init 93 = .ok (.iconst 2, 1) := by decide +kernel
theorem dX12_init_94 : decode cX12_init 94 = .ok (.bipush 32, 2) := by decide +kernel
theorem dX12_init_96 : decode cX12_init 96 = .ok (.multianewarray 30 2, 4) := by decide +kernel
theorem dX12_init_100 : decode cX12_init 100 = .ok (.putfield 41, 3) := by decide +kernel
theorem dX12_init_103 : decode cX12_init 103 = .ok (.aload_n 0, 1) := by decide +kernel
theorem dX12_init_104 : decode cX12_init 104 = .ok (.bipush 32, 2) := by decide +kernel
theorem dX12_init_106 : decode cX12_init 106 = .ok (.newarray .int, 2) := by decide +kernel
theorem dX12_init_108 : decode cX12_init 108 = .ok (.putfield 44, 3) := by decide +kernel
theorem dX12_init_111 : decode cX12_init 111 = .ok (.aload_n 0, 1) := by decide +kernel
theorem dX12_init_112 : decode cX12_init 112 = .ok (.bipush 32, 2) := by decide +kernel
theorem dX12_init_114 : decode cX12_init 114 = .ok (.newarray .int, 2) := by decide +kernel
theorem dX12_init_116 : decode cX12_init 116 = .ok (.putfield 47, 3) := by decide +kernel
theorem dX12_init_119 : decode cX12_init 119 = .ok (.aload_n 0, 1) := by decide +kernel
theorem dX12_init_120 : decode cX12_init 120 = .ok (.sipush 400, 3) := by decide +kernel
theorem dX12_init_123 : decode cX12_init 123 = .ok (.newarray .int, 2) := by decide +kernel
theorem dX12_init_125 : decode cX12_init 125 = .ok (.putfield 50, 3) := by decide +kernel
theorem dX12_init_128 : decode cX12_init 128 = .ok (.aload_n 0, 1) := by decide +kernel
theorem dX12_init_129 : decode cX12_init 129 = .ok (.bipush 8, 2) := by decide +kernel
theorem dX12_init_131 : decode cX12_init 131 = .ok (.newarray .int, 2) := by decide +kernel
theorem dX12_init_133 : decode cX12_init 133 = .ok (.putfield 53, 3) := by decide +kernel
theorem dX12_init_136 : decode cX12_init 136 = .ok (.aload_n 0, 1) := by decide +kernel
theorem dX12_init_137 : decode cX12_init 137 = .ok (.iconst (-1), 1) := by decide +kernel
theorem dX12_init_138 : decode cX12_init 138 = .ok (.putfield 56, 3) := by decide +kernel
theorem dX12_init_141 : decode cX12_init 141 = .ok (.aload_n 0, 1) := by decide +kernel
theorem dX12_init_142 : decode cX12_init 142 = .ok (.bipush 32, 2) := by decide +kernel
theorem dX12_init_144 : decode cX12_init 144 = .ok (.newarray .int, 2) := by decide +kernel
theorem dX12_init_146 : decode cX12_init 146 = .ok (.putfield 60, 3) := by decide +kernel
theorem dX12_init_149 : decode cX12_init 149 = .ok (.aload_n 0, 1) := by decide +kernel
theorem dX12_init_150 : decode cX12_init 150 = .ok (.bipush 8, 2) := by decide +kernel
theorem dX12_init_152 : decode cX12_init 152 = .ok (.bipush 8, 2) := by decide +kernel
theorem dX12_init_154 : decode cX12_init 154 = .ok (.multianewarray 9 2, 4) := by decide +kernel
theorem dX12_init_158 : decode cX12_init 158 = .ok (.putfield 63, 3) := by decide +kernel
theorem dX12_init_161 : decode cX12_init 161 = .ok (.aload_n 0, 1) := by decide +kernel
theorem dX12_init_162 : decode cX12_init 162 = .ok (.bipush 20, 2) := by decide +kernel
theorem dX12_init_164 : decode cX12_init 164 = .ok (.newarray .int, 2) := by decide +kernel
theorem dX12_init_166 : decode cX12_init 166 = .ok (.putfield 66, 3) := by decide +kernel
theorem dX12_init_169 : decode cX12_init 169 = .ok (.aload_n 0, 1) := by decide +kernel
theorem dX12_init_170 : decode cX12_init 170 = .ok (.bipush 12, 2) := by decide +kernel
theorem dX12_init_172 : decode cX12_init 172 = .ok (.iconst 4, 1) := by decide +kernel
theorem dX12_init_173 : decode cX12_init 173 = .ok (.multianewarray 30 2, 4) := by decide +kernel
theorem dX12_init_177 : decode cX12_init 177 = .ok (.putfield 69, 3) := by decide +kernel
theorem dX12_init_180 : decode cX12_init 180 = .ok (.aload_n 0, 1) := by decide +kernel
theorem dX12_init_181 : decode cX12_init 181 = .ok (.bipush 12, 2) := by decide +kernel
theorem dX12_init_183 : decode cX12_init 183 = .ok (.newarray .int, 2) := by decide +kernel
theorem dX12_init_185 : decode cX12_init 185 = .ok (.putfield 72, 3) := by decide +kernel
theorem dX12_init_188 : decode cX12_init 188 = .ok (.aload_n 0, 1) := by decide +kernel
theorem dX12_init_189 : decode cX12_init 189 = .ok (.bipush 16, 2) := by decide +kernel
theorem dX12_init_191 : decode cX12_init 191 = .ok (.newarray .int, 2) := by decide +kernel
theorem dX12_init_193 : decode cX12_init 193 = .ok (.putfield 75, 3) := by decide +kernel
theorem dX12_init_196 : decode cX12_init 196 = .ok (.aload_n 0, 1) := by decide +kernel
theorem dX12_init_197 : decode cX12_init 197 = .ok (.bipush 16, 2) := by decide +kernel
theorem dX12_init_199 : decode cX12_init 199 = .ok (.bipush 8, 2) := by decide +kernel
theorem dX12_init_201 : decode cX12_init 201 = .ok (.multianewarray 30 2, 4) := by decide +kernel
theorem dX12_init_205 : decode cX12_init 205 = .ok (.putfield 78, 3) := by decide +kernel
theorem dX12_init_208 : decode cX12_init 208 = .ok (.aload_n 0, 1) := by decide +kernel
theorem dX12_init_209 : decode cX12_init 209 = .ok (.bipush 32, 2) := by decide +kernel
theorem dX12_init_211 : decode cX12_init 211 = .ok (.newarray .int, 2) := by decide +kernel
theorem dX12_init_213 : decode cX12_init 213 = .ok (.putfield 81, 3) := by decide +kernel
theorem dX12_init_216 : decode cX12_init 216 = .ok (.aload_n 0, 1) := by decide +kernel
theorem dX12_init_217 : decode cX12_init 217 = .ok (.bipush 32, 2) := by decide +kernel
theorem dX12_init_219 : decode cX12_init 219 = .ok (.newarray .int, 2) := by decide +kernel
theorem dX12_init_221 : decode cX12_init 221 = .ok (.putfield 84, 3) := by decide +kernel
theorem dX12_init_224 : decode cX12_init 224 = .ok (.aload_n 0, 1) := by decide +kernel
theorem dX12_init_225 : decode cX12_init 225 = .ok (.bipush 32, 2) := by decide +kernel
theorem dX12_init_227 : decode cX12_init 227 = .ok (.newarray .int, 2) := by decide +kernel
theorem dX12_init_229 : decode cX12_init 229 = .ok (.putfield 87, 3) := by decide +kernel
theorem dX12_init_232 : decode cX12_init 232 = .ok (.aload_n 0, 1) := by decide +kernel
theorem dX12_init_233 : decode cX12_init 233 = .ok (.bipush 16, 2) := by decide +kernel
theorem dX12_init_235 : decode cX12_init 235 = .ok (.newarray .int, 2) := by decide +kernel
theorem dX12_init_237 : decode cX12_init 237 = .ok (.putfield 90, 3) := by decide +kernel
theorem dX12_init_240 : decode cX12_init 240 = .ok (.aload_n 0, 1) := by decide +kernel
theorem dX12_init_241 : decode cX12_init 241 = .ok (.iconst 3, 1) := by decide +kernel
theorem dX12_init_242 : decode cX12_init 242 = .ok (.newarray .int, 2) := by decide +kernel
theorem dX12_init_244 : decode cX12_init 244 = .ok (.dup, 1) := by decide +kernel
theorem dX12_init_245 : decode cX12_init 245 = .ok (.iconst 0, 1) := by decide +kernel
theorem dX12_init_246 : decode cX12_init 246 = .ok (.bipush (-2), 2) := by decide +kernel
theorem dX12_init_248 : decode cX12_init 248 = .ok (.iastore, 1) := by decide +kernel
theorem dX12_init_249 : decode cX12_init 249 = .ok (.dup, 1) := by decide +kernel
theorem dX12_init_250 : decode cX12_init 250 = .ok (.iconst 1, 1) := by decide +kernel
theorem dX12_init_251 : decode cX12_init 251 = .ok (.bipush (-2), 2) := by decide +kernel
theorem dX12_init_253 : decode cX12_init 253 = .ok (.iastore, 1) := by decide +kernel
theorem dX12_init_254 : decode cX12_init 254 = .ok (.dup, 1) := by decide +kernel
theorem dX12_init_255 : decode cX12_init 255 = .ok (.iconst 2, 1) := by decide +kernel
theorem dX12_init_256 : decode cX12_init 256 = .ok (.bipush (-2), 2) := by decide +kernel
theorem dX12_init_258 : decode cX12_init 258 = .ok (.iastore, 1) := by decide +kernel
theorem dX12_init_259 : decode cX12_init 259 = .ok (.putfield 93, 3) := by decide +kernel
theorem dX12_init_262 : decode cX12_init 262 = .ok (.aload_n 0, 1) := by decide +kernel
theorem dX12_init_263 : decode cX12_init 263 = .ok (.iconst 3, 1) := by decide +kernel
theorem dX12_init_264 : decode cX12_init 264 = .ok (.newarray .int, 2) := by decide +kernel
theorem dX12_init_266 : decode cX12_init 266 = .ok (.dup, 1) := by decide +kernel
theorem dX12_init_267 : decode cX12_init 267 = .ok (.iconst 0, 1) := by decide +kernel
theorem dX12_init_268 : decode cX12_init 268 = .ok (.iconst (-1), 1) := by decide +kernel
theorem dX12_init_269 : decode cX12_init 269 = .ok (.iastore, 1) := by decide +kernel
theorem dX12_init_270 : decode cX12_init 270 = .ok (.dup, 1) := by decide +kernel
theorem dX12_init_271 : decode cX12_init 271 = .ok (.iconst 1, 1) := by decide +kernel
theorem dX12_init_272 : decode cX12_init 272 = .ok (.iconst (-1), 1) := by decide +kernel
theorem dX12_init_273 : decode cX12_init 273 = .ok (.iastore, 1) := by decide +kernel
theorem dX12_init_274 : decode cX12_init 274 = .ok (.dup, 1) := by decide +kernel
theorem dX12_init_275 : decode cX12_init 275 = .ok (.iconst 2, 1) := by decide +kernel
theorem dX12_init_276 : decode cX12_init 276 = .ok (.iconst (-1), 1) := by decide +kernel
theorem dX12_init_277 : decode cX12_init 277 = .ok (.iastore, 1) := by decide +kernel
theorem dX12_init_278 : decode cX12_init 278 = .ok (.putfield 96, 3) := by decide +kernel
theorem dX12_init_281 : decode cX12_init 281 = .ok (.aload_n 0, 1) := by decide +kernel
theorem dX12_init_282 : decode cX12_init 282 = .ok (.iconst 3, 1) := by decide +kernel
theorem dX12_init_283 : decode cX12_init 283 = .ok (.bipush 16, 2) := by decide +kernel
theorem dX12_init_285 : decode cX12_init 285 = .ok (.multianewarray 99 2, 4) := by decide +kernel
theorem dX12_init_289 : decode cX12_init 289 = .ok (.putfield 101, 3) := by decide +kernel
theorem dX12_init_292 : decode cX12_init 292 = .ok (.aload_n 0, 1) := by decide +kernel
theorem dX12_init_293 : decode cX12_init 293 = .ok (.bipush 16, 2) := by decide +kernel
theorem dX12_init_295 : decode cX12_init 295 = .ok (.newarray .int, 2) := by decide +kernel
theorem dX12_init_297 : decode cX12_init 297 = .ok (.putfield 104, 3) := by decide +kernel
theorem dX12_init_300 : decode cX12_init 300 = .ok (.aload_n 0, 1) := by decide +kernel
theorem dX12_init_301 : decode cX12_init 301 = .ok (.bipush 32, 2) := by decide +kernel
theorem dX12_init_303 : decode cX12_init 303 = .ok (.newarray .int, 2) := by decide +kernel
theorem dX12_init_305 : decode cX12_init 305 = .ok (.putfield 107, 3) := by decide +kernel
theorem dX12_init_308 : decode cX12_init 308 = .ok (.aload_n 0, 1) := by decide +kernel
theorem dX12_init_309 : decode cX12_init 309 = .ok (.bipush 32, 2) := by decide +kernel
theorem dX12_init_311 : decode cX12_init 311 = .ok (.newarray .int, 2) := by decide +kernel
theorem dX12_init_313 : decode cX12_init 313 = .ok (.putfield 110, 3) := by decide +kernel
theorem dX12_init_316 : decode cX12_init 316 = .ok (.aload_n 0, 1) := by decide +kernel
theorem dX12_init_317 : decode cX12_init 317 = .ok (.bipush 32, 2) := by decide +kernel
theorem dX12_init_319 : decode cX12_init 319 = .ok (.newarray .int, 2) := by decide +kernel
theorem dX12_init_321 : decode cX12_init 321 = .ok (.putfield 113, 3) := by decide +kernel
theorem dX12_init_324 : decode cX12_init 324 = .ok (.aload_n 0, 1) := by decide +kernel
theorem dX12_init_325 : decode cX12_init 325 = .ok (.bipush 12, 2) := by decide +kernel
theorem dX12_init_327 : decode cX12_init 327 = .ok (.newarray .int, 2) := by decide +kernel
theorem dX12_init_329 : decode cX12_init 329 = .ok (.putfield 116, 3) := by decide +kernel
theorem dX12_init_332 : decode cX12_init 332 = .ok (.aload_n 0, 1) := by decide +kernel
theorem dX12_init_333 : decode cX12_init 333 = .ok (.bipush 16, 2) := by decide +kernel
theorem dX12_init_335 : decode cX12_init 335 = .ok (.bipush 8, 2) := by decide +kernel
theorem dX12_init_337 : decode cX12_init 337 = .ok (.multianewarray 30 2, 4) := by decide +kernel
theorem dX12_init_341 : decode cX12_init 341 = .ok (.putfield 119, 3) := by decide +kernel
theorem dX12_init_344 : decode cX12_init 344 = .ok (.aload_n 0, 1) := by decide +kernel
theorem dX12_init_345 : decode cX12_init 345 = .ok (.bipush 12, 2) := by decide +kernel
theorem dX12_init_347 : decode cX12_init 347 = .ok (.iconst 4, 1) := by decide +kernel
theorem dX12_init_348 : decode cX12_init 348 = .ok (.multianewarray 30 2, 4) := by decide +kernel
theorem dX12_init_352 : decode cX12_init 352 = .ok (.putfield 122, 3) := by decide +kernel
theorem dX12_init_355 : decode cX12_init 355 = .ok (.aload_n 0, 1) := by decide +kernel
theorem dX12_init_356 : decode cX12_init 356 = .ok (.bipush 8, 2) := by decide +kernel
theorem dX12_init_358 : decode cX12_init 358 = .ok (.bipush 8, 2) := by decide +kernel
theorem dX12_init_360 : decode cX12_init 360 = .ok (.multianewarray 9 2, 4) := by decide +kernel
theorem dX12_init_364 : decode cX12_init 364 = .ok (.putfield 125, 3) := by decide +kernel
theorem dX12_init_367 : decode cX12_init 367 = .ok (.return_, 1) := by decide +kernel
theorem dX12_isBetween_0 : decode cX12_isBetween 0 = .ok (.iload_n 0, 1) := by decide +kernel
theorem dX12_isBetween_1 : decode cX12_isBetween 1 = .ok (.iload_n 1, 1) := by decide +kernel
theorem dX12_isBetween_2 : decode cX12_isBetween 2 = .ok (.if_icmp .lt 12, 3) := by decide +kernel
theorem dX12_isBetween_5 : decode cX12_isBetween 5 = .ok (.iload_n 0, 1) := by decide +kernel
theorem dX12_isBetween_6 : decode cX12_isBetween 6 = .ok (.iload_n 2, 1) := by decide +kernel
theorem dX12_isBetween_7 : decode cX12_isBetween 7 = .ok (.if_icmp .gt 7, 3) := by decide +kernel
theorem dX12_isBetween_10 : decode cX12_isBetween 10 = .ok (.iconst 1, 1) := by decide +kernel
theorem dX12_isBetween_11 : decode cX12_isBetween 11 = .ok (.goto 4, 3) := by decide +kernel
theorem dX12_isBetween_14 : decode cX12_isBetween 14 = .ok (.iconst 0, 1) := by decide +kernel
theorem dX12_isBetween_15 : decode cX12_isBetween 15 = .ok (.ireturn, 1) := by decide +kernel
set_option maxRecDepth 20000 in
theorem ggX12_isLabel_X12_isBetween : GoodIn wsX12_isLabel wsX12_isBetween := goodIn_r _ [4] (by decide +kernel) (by decide +kernel)
set_option maxRecDepth 20000 in
theorem gX12_isLabel_X12_isBetween : GoodIn wsX12_isLabel (va_wsS RX12 128 yX12_isBetween wsX12_isBetween) := goodIn_app (goodIn_of _ (by decide +kernel)) ggX12_isLabel_X12_isBetween
theorem dX12_isLabel_0 : decode cX12_isLabel 0 = .ok (.iload_n 0, 1) := by decide +kernel
theorem dX12_isLabel_1 : decode cX12_isLabel 1 = .ok (.iconst 0, 1) := by decide +kernel
theorem dX12_isLabel_2 : decode cX12_isLabel 2 = .ok (.bipush 7, 2) := by decide +kernel
theorem dX12_isLabel_4 : decode cX12_isLabel 4 = .ok (.invokestatic 128, 3) := by decide +kernel
theorem dX12_isLabel_7 : decode cX12_isLabel 7 = .ok (.ireturn, 1) := by decide +kernel
set_option maxRecDepth 20000 in
theorem ggX12_isObject_X12_isBetween : GoodIn wsX12_isObject wsX12_isBetween := goodIn_r _ [5] (by decide +kernel) (by decide +kernel)
set_option maxRecDepth 20000 in
theorem gX12_isObject_X12_isBetween : GoodIn wsX12_isObject (va_wsS RX12 128 yX12_isBetween wsX12_isBetween) := goodIn_app (goodIn_of _ (by decide +kernel)) ggX12_isObject_X12_isBetween
theorem dX12_isObject_0 : decode cX12_isObject 0 = .ok (.iload_n 1, 1) := by decide +kernel
theorem dX12_isObject_1 : decode cX12_isObject 1 = .ok (.iconst 0, 1) := by decide +kernel
theorem dX12_isObject_2 : decode cX12_isObject 2 = .ok (.aload_n 0, 1) := by decide +kernel
theorem dX12_isObject_3 : decode cX12_isObject 3 = .ok (.getfield 132, 3) := by decide +kernel
theorem dX12_isObject_6 : decode cX12_isObject 6 = .ok (.iconst 1, 1) := by decide +kernel
theorem dX12_isObject_7 : decode cX12_isObject 7 = .ok (.isub, 1) := by decide +kernel
theorem dX12_isObject_8 : decode cX12_isObject 8 = .ok (.invokestatic 128, 3) := by decide +kernel
theorem dX12_isObject_11 : decode cX12_isObject 11 = .ok (.ireturn, 1) := by decide +kernel
set_option maxRecDepth 20000 in
theorem ggX12_isStep_X12_isBetween : GoodIn wsX12_isStep wsX12_isBetween := goodIn_r _ [5] (by decide +kernel) (by decide +kernel)
set_option maxRecDepth 20000 in
theorem gX12_isStep_X12_isBetween : GoodIn wsX12_isStep (va_wsS RX12 128 yX12_isBetween wsX12_isBetween) := goodIn_app (goodIn_of _ (by decide +kernel)) ggX12_isStep_X12_isBetween
theorem dX12_isStep_0 : decode cX12_isStep 0 = .ok (.iload_n 1, 1) := by decide +kernel
theorem dX12_isStep_1 : decode cX12_isStep 1 = .ok (.iconst 0, 1) := by decide +kernel
theorem dX12_isStep_2 : decode cX12_isStep 2 = .ok (.aload_n 0, 1) := by decide +kernel
theorem dX12_isStep_3 : decode cX12_isStep 3 = .ok (.getfield 135, 3) := by decide +kernel
theorem dX12_isStep_6 : decode cX12_isStep 6 = .ok (.iconst 1, 1) := by decide +kernel
theorem dX12_isStep_7 : decode cX12_isStep 7 = .ok (.isub, 1) := by decide +kernel
theorem dX12_isStep_8 : decode cX12_isStep 8 = .ok (.invokestatic 128, 3) := by decide +kernel
theorem dX12_isStep_11 : decode cX12_isStep 11 = .ok (.ireturn, 1) := by decide +kernel
theorem dX12_closeOrder_0 : decode cX12_closeOrder 0 = .ok (.iconst 0, 1) := by decide +kernel
theorem dX12_closeOrder_1 : decode cX12_closeOrder 1 = .ok (.istore_n 1, 1) := by decide +kernel
theorem dX12_closeOrder_2 : decode cX12_closeOrder 2 = .ok (.iload_n 1, 1) := by decide +kernel
theorem dX12_closeOrder_3 : decode cX12_closeOrder 3 = .ok (.bipush 8, 2) := by decide +kernel
theorem dX12_closeOrder_5 : decode cX12_closeOrder 5 = .ok (.if_icmp .ge 39, 3) := by decide +kernel
theorem dX12_closeOrder_8 : decode cX12_closeOrder 8 = .ok (.iconst 0, 1) := by decide +kernel
theorem dX12_closeOrder_9 : decode cX12_closeOrder 9 = .ok (.istore_n 2, 1) := by decide +kernel
theorem dX12_closeOrder_10 : decode cX12_closeOrder 10 = .ok (.iload_n 2, 1) := by decide +kernel
theorem dX12_closeOrder_11 : decode cX12_closeOrder 11 = .ok (.bipush 8, 2) := by decide +kernel
theorem dX12_closeOrder_13 : decode cX12_closeOrder 13 = .ok (.if_icmp .ge 25, 3) := by decide +kernel
theorem dX12_closeOrder_16 : decode cX12_closeOrder 16 = .ok (.aload_n 0, 1) := by decide +kernel
theorem dX12_closeOrder_17 : decode cX12_closeOrder 17 = .ok (.getfield 14, 3) := by decide +kernel
theorem dX12_closeOrder_20 : decode cX12_closeOrder 20 = .ok (.iload_n 1, 1) := by decide +kernel
theorem dX12_closeOrder_21 : decode cX12_closeOrder 21 = .ok (.aaload, 1) := by decide +kernel
theorem dX12_closeOrder_22 : decode cX12_closeOrder 22 = .ok (.iload_n 2, 1) := by decide +kernel
theorem dX12_closeOrder_23 : decode cX12_closeOrder 23 = .ok (.aload_n 0, 1) := by decide +kernel
theorem dX12_closeOrder_24 : decode cX12_closeOrder 24 = .ok (.getfield 11, 3) := by decide +kernel
theorem dX12_closeOrder_27 : decode cX12_closeOrder 27 = .ok (.iload_n 1, 1) := by decide +kernel
theorem dX12_closeOrder_28 : decode cX12_closeOrder 28 = .ok (.aaload, 1) := by decide +kernel
theorem dX12_closeOrder_29 : decode cX12_closeOrder 29 = .ok (.iload_n 2, 1) := by decide +kernel
theorem dX12_closeOrder_30 : decode cX12_closeOrder 30 = .ok (.baload, 1) := by decide +kernel
theorem dX12_closeOrder_31 : decode cX12_closeOrder 31 = .ok (.bastore, 1) := by decide +kernel
theorem dX12_closeOrder_32 : decode cX12_closeOrder 32 = .ok (.iinc 2 1, 3) := by decide +kernel
theorem dX12_closeOrder_35 : decode cX12_closeOrder 35 = .ok (.goto (-25), 3) := by decide +kernel
theorem dX12_closeOrder_38 : decode cX12_closeOrder 38 = .ok (.iinc 1 1, 3) := by decide +kernel
theorem dX12_closeOrder_41 : decode cX12_closeOrder 41 = .ok (.goto (-39), 3) := by decide +kernel
theorem dX12_closeOrder_44 : decode cX12_closeOrder 44 = .ok (.iconst 0, 1) := by decide +kernel
theorem dX12_closeOrder_45 : decode cX12_closeOrder 45 = .ok (.istore_n 1, 1) := by decide +kernel
theorem dX12_closeOrder_46 : decode cX12_closeOrder 46 = .ok (.iload_n 1, 1) := by decide +kernel
theorem dX12_closeOrder_47 : decode cX12_closeOrder 47 = .ok (.bipush 8, 2) := by decide +kernel
theorem dX12_closeOrder_49 : decode cX12_closeOrder 49 = .ok (.if_icmp .ge 75, 3) := by decide +kernel
theorem dX12_closeOrder_52 : decode cX12_closeOrder 52 = .ok (.iconst 0, 1) := by decide +kernel
theorem dX12_closeOrder_53 : decode cX12_closeOrder 53 = .ok (.istore_n 2, 1) := by decide +kernel
theorem dX12_closeOrder_54 : decode cX12_closeOrder 54 = .ok (.iload_n 2, 1) := by decide +kernel
theorem dX12_closeOrder_55 : decode cX12_closeOrder 55 = .ok (.bipush 8, 2) := by decide +kernel
theorem dX12_closeOrder_57 : decode cX12_closeOrder 57 = .ok (.if_icmp .ge 61, 3) := by decide +kernel
theorem dX12_closeOrder_60 : decode cX12_closeOrder 60 = .ok (.iconst 0, 1) := by decide +kernel
theorem dX12_closeOrder_61 : decode cX12_closeOrder 61 = .ok (.istore_n 3, 1) := by decide +kernel
theorem dX12_closeOrder_62 : decode cX12_closeOrder 62 = .ok (.iload_n 3, 1) := by decide +kernel
theorem dX12_closeOrder_63 : decode cX12_closeOrder 63 = .ok (.bipush 8, 2) := by decide +kernel
theorem dX12_closeOrder_65 : decode cX12_closeOrder 65 = .ok (.if_icmp .ge 47, 3) := by decide +kernel
theorem dX12_closeOrder_68 : decode cX12_closeOrder 68 = .ok (.aload_n 0, 1) := by decide +kernel
theorem dX12_closeOrder_69 : decode cX12_closeOrder 69 = .ok (.getfield 14, 3) := by decide +kernel
theorem dX12_closeOrder_72 : decode cX12_closeOrder 72 = .ok (.iload_n 2, 1) := by decide +kernel
theorem dX12_closeOrder_73 : decode cX12_closeOrder 73 = .ok (.aaload, 1) := by decide +kernel
theorem dX12_closeOrder_74 : decode cX12_closeOrder 74 = .ok (.iload_n 3, 1) := by decide +kernel
theorem dX12_closeOrder_75 : decode cX12_closeOrder 75 = .ok (.dup2, 1) := by decide +kernel
theorem dX12_closeOrder_76 : decode cX12_closeOrder 76 = .ok (.baload, 1) := by decide +kernel
theorem dX12_closeOrder_77 : decode cX12_closeOrder 77 = .ok (.aload_n 0, 1) := by decide +kernel
theorem dX12_closeOrder_78 : decode cX12_closeOrder 78 = .ok (.getfield 14, 3) := by decide +kernel
theorem dX12_closeOrder_81 : decode cX12_closeOrder 81 = .ok (.iload_n 2, 1) := by decide +kernel
theorem dX12_closeOrder_82 : decode cX12_closeOrder 82 = .ok (.aaload, 1) := by decide +kernel
theorem dX12_closeOrder_83 : decode cX12_closeOrder 83 = .ok (.iload_n 1, 1) := by decide +kernel
theorem dX12_closeOrder_84 : decode cX12_closeOrder 84 = .ok (.baload, 1) := by decide +kernel
theorem dX12_closeOrder_85 : decode cX12_closeOrder 85 = .ok (.ifCond .eq 18, 3) := by decide +kernel
theorem dX12_closeOrder_88 : decode cX12_closeOrder 88 = .ok (.aload_n 0, 1) := by decide +kernel
theorem dX12_closeOrder_89 : decode cX12_closeOrder 89 = .ok (.getfield 14, 3) := by decide +kernel
theorem dX12_closeOrder_92 : decode cX12_closeOrder 92 = .ok (.iload_n 1, 1) := by decide +kernel
theorem dX12_closeOrder_93 : decode cX12_closeOrder 93 = .ok (.aaload, 1) := by decide +kernel
theorem dX12_closeOrder_94 : decode cX12_closeOrder 94 = .ok (.iload_n 3, 1) := by decide +kernel
theorem dX12_closeOrder_95 : decode cX12_closeOrder 95 = .ok (.baload, 1) := by decide +kernel
theorem dX12_closeOrder_96 : decode cX12_closeOrder 96 = .ok (.ifCond .eq 7, 3) := by decide +kernel
theorem dX12_closeOrder_99 : decode cX12_closeOrder 99 = .ok (.iconst 1, 1) := by decide +kernel
theorem dX12_closeOrder_100 : decode cX12_closeOrder 100 = .ok (.goto 4, 3) := by decide +kernel
theorem dX12_closeOrder_103 : decode cX12_closeOrder 103 = .ok (.iconst 0, 1) := by decide +kernel
theorem dX12_closeOrder_104 : decode cX12_closeOrder 104 = .ok (.ior, 1) := by decide +kernel
theorem dX12_closeOrder_105 : decode cX12_closeOrder 105 = .ok (.bastore, 1) := by decide +kernel
theorem dX12_closeOrder_106 : decode cX12_closeOrder 106 = .ok (.iinc 3 1, 3) := by decide +kernel
theorem dX12_closeOrder_109 : decode cX12_closeOrder 109 = .ok (.goto (-47), 3) := by decide +kernel
theorem dX12_closeOrder_112 : decode cX12_closeOrder 112 = .ok (.iinc 2 1, 3) := by decide +kernel
theorem dX12_closeOrder_115 : decode cX12_closeOrder 115 = .ok (.goto (-61), 3) := by decide +kernel
theorem dX12_closeOrder_118 : decode cX12_closeOrder 118 = .ok (.iinc 1 1, 3) := by decide +kernel
theorem dX12_closeOrder_121 : decode cX12_closeOrder 121 = .ok (.goto (-75), 3) := by decide +kernel
theorem dX12_closeOrder_124 : decode cX12_closeOrder 124 = .ok (.return_, 1) := by decide +kernel
set_option maxRecDepth 20000 in
theorem ggX12_addGreater_X12_isLabel : GoodIn wsX12_addGreater wsX12_isLabel := goodIn_r _ [6, 7, 8, 5, 9] (by decide +kernel) (by decide +kernel)
set_option maxRecDepth 20000 in
theorem gX12_addGreater_X12_isLabel : GoodIn wsX12_addGreater (va_wsS RX12 138 yX12_isLabel wsX12_isLabel) := goodIn_app (goodIn_of _ (by decide +kernel)) ggX12_addGreater_X12_isLabel
set_option maxRecDepth 20000 in
theorem ggX12_addGreater_X12_closeOrder : GoodIn wsX12_addGreater wsX12_closeOrder := goodIn_r _ [13, 2, 1, 14, 15, 16, 17, 18, 19, 20, 21, 22, 23, 24, 25, 26, 27, 28, 29, 30, 31, 32, 33, 34, 35, 36, 37, 38, 39, 40, 41, 42, 43, 44, 45, 46, 47, 48, 49, 50, 51, 52, 53, 54, 55, 56, 57, 58, 59, 60, 61, 62, 63, 64, 65] (by decide +kernel) (by decide +kernel)
set_option maxRecDepth 20000 in
theorem gX12_addGreater_X12_closeOrder : GoodIn wsX12_addGreater (wsV RX12 142 RX12 yX12_closeOrder wsX12_closeOrder) := goodIn_app (goodIn_of _ (by decide +kernel)) ggX12_addGreater_X12_closeOrder
theorem dX12_addGreater_0 : decode cX12_addGreater 0 = .ok (.iload_n 1, 1) := by decide +kernel
theorem dX12_addGreater_1 : decode cX12_addGreater 1 = .ok (.invokestatic 138, 3) := by decide +kernel
theorem dX12_addGreater_4 : decode cX12_addGreater 4 = .ok (.ifCond .eq 10, 3) := by decide +kernel
theorem dX12_addGreater_7 : decode cX12_addGreater 7 = .ok (.iload_n 2, 1) := by decide +kernel
theorem dX12_addGreater_8 : decode cX12_addGreater 8 = .ok (.invokestatic 138, 3) := by decide +kernel
theorem dX12_addGreater_11 : decode cX12_addGreater 11 = .ok (.ifCond .ne 5, 3) := by decide +kernel
theorem dX12_addGreater_14 : decode cX12_addGreater 14 = .ok (.iconst (-1), 1) := by decide +kernel
theorem dX12_addGreater_15 : decode cX12_addGreater 15 = .ok (.ireturn, 1) := by decide +kernel
theorem dX12_addGreater_16 : decode cX12_addGreater 16 = .ok (.aload_n 0, 1) := by decide +kernel
theorem dX12_addGreater_17 : decode cX12_addGreater 17 = .ok (.getfield 11, 3) := by decide +kernel
theorem dX12_addGreater_20 : decode cX12_addGreater 20 = .ok (.iload_n 1, 1) := by decide +kernel
theorem dX12_addGreater_21 : decode cX12_addGreater 21 = .ok (.aaload, 1) := by decide +kernel
theorem dX12_addGreater_22 : decode cX12_addGreater 22 = .ok (.iload_n 2, 1) := by decide +kernel
theorem dX12_addGreater_23 : decode cX12_addGreater 23 = .ok (.baload, 1) := by decide +kernel
theorem dX12_addGreater_24 : decode cX12_addGreater 24 = .ok (.ifCond .eq 5, 3) := by decide +kernel
theorem dX12_addGreater_27 : decode cX12_addGreater 27 = .ok (.iconst 0, 1) := by decide +kernel
theorem dX12_addGreater_28 : decode cX12_addGreater 28 = .ok (.ireturn, 1) := by decide +kernel
theorem dX12_addGreater_29 : decode cX12_addGreater 29 = .ok (.iload_n 1, 1) := by decide +kernel
theorem dX12_addGreater_30 : decode cX12_addGreater 30 = .ok (.iload_n 2, 1) := by decide +kernel
theorem dX12_addGreater_31 : decode cX12_addGreater 31 = .ok (.if_icmp .eq 14, 3) := by decide +kernel
theorem dX12_addGreater_34 : decode cX12_addGreater 34 = .ok (.aload_n 0, 1) := by decide +kernel
theorem dX12_addGreater_35 : decode cX12_addGreater 35 = .ok (.getfield 14, 3) := by decide +kernel
theorem dX12_addGreater_38 : decode cX12_addGreater 38 = .ok (.iload_n 2, 1) := by decide +kernel
theorem dX12_addGreater_39 : decode cX12_addGreater 39 = .ok (.aaload, 1) := by decide +kernel
theorem dX12_addGreater_40 : decode cX12_addGreater 40 = .ok (.iload_n 1, 1) := by decide +kernel
theorem dX12_addGreater_41 : decode cX12_addGreater 41 = .ok (.baload, 1) := by decide +kernel
theorem dX12_addGreater_42 : decode cX12_addGreater 42 = .ok (.ifCond .eq 6, 3) := by decide +kernel
theorem dX12_addGreater_45 : decode cX12_addGreater 45 = .ok (.bipush (-4), 2) := by decide +kernel
theorem dX12_addGreater_47 : decode cX12_addGreater 47 = .ok (.ireturn, 1) := by decide +kernel
theorem dX12_addGreater_48 : decode cX12_addGreater 48 = .ok (.aload_n 0, 1) := by decide +kernel
theorem dX12_addGreater_49 : decode cX12_addGreater 49 = .ok (.getfield 11, 3) := by decide +kernel
theorem dX12_addGreater_52 : decode cX12_addGreater 52 = .ok (.iload_n 1, 1) := by decide +kernel
theorem dX12_addGreater_53 : decode cX12_addGreater 53 = .ok (.aaload, 1) := by decide +kernel
theorem dX12_addGreater_54 : decode cX12_addGreater 54 = .ok (.iload_n 2, 1) := by decide +kernel
theorem dX12_addGreater_55 : decode cX12_addGreater 55 = .ok (.iconst 1, 1) := by decide +kernel
theorem dX12_addGreater_56 : decode cX12_addGreater 56 = .ok (.bastore, 1) := by decide +kernel
theorem dX12_addGreater_57 : decode cX12_addGreater 57 = .ok (.aload_n 0, 1) := by decide +kernel
theorem dX12_addGreater_58 : decode cX12_addGreater 58 = .ok (.invokevirtual 142, 3) := by decide +kernel
theorem dX12_addGreater_61 : decode cX12_addGreater 61 = .ok (.iconst 1, 1) := by decide +kernel
theorem dX12_addGreater_62 : decode cX12_addGreater 62 = .ok (.ireturn, 1) := by decide +kernel
set_option maxRecDepth 20000 in
theorem ggX12_removeGreater_X12_isLabel : GoodIn wsX12_removeGreater wsX12_isLabel := goodIn_r _ [5, 6, 7, 4, 8] (by decide +kernel) (by decide +kernel)
set_option maxRecDepth 20000 in
theorem gX12_removeGreater_X12_isLabel : GoodIn wsX12_removeGreater (va_wsS RX12 138 yX12_isLabel wsX12_isLabel) := goodIn_app (goodIn_of _ (by decide +kernel)) ggX12_removeGreater_X12_isLabel
set_option maxRecDepth 20000 in
theorem ggX12_removeGreater_X12_closeOrder : GoodIn wsX12_removeGreater wsX12_closeOrder := goodIn_r _ [12, 13, 1, 14, 15, 16, 17, 18, 19, 20, 21, 22, 23, 24, 25, 26, 27, 28, 29, 30, 31, 32, 33, 34, 35, 36, 37, 38, 39, 40, 41, 42, 43, 44, 45, 46, 47, 48, 49, 50, 51, 52, 53, 54, 55, 56, 57, 58, 59, 60, 61, 62, 63, 64, 65] (by decide +kernel) (by decide +kernel)
set_option maxRecDepth 20000 in
theorem gX12_removeGreater_X12_closeOrder : GoodIn wsX12_removeGreater (wsV RX12 142 RX12 yX12_closeOrder wsX12_closeOrder) := goodIn_app (goodIn_of _ (by decide +kernel)) ggX12_removeGreater_X12_closeOrder
theorem dX12_removeGreater_0 : decode cX12_removeGreater 0 = .ok (.iload_n 1, 1) := by decide +kernel
theorem dX12_removeGreater_1 : decode cX12_removeGreater 1 = .ok (.invokestatic 138, 3) := by decide +kernel
theorem dX12_removeGreater_4 : decode cX12_removeGreater 4 = .ok (.ifCond .eq 10, 3) := by decide +kernel
theorem dX12_removeGreater_7 : decode cX12_removeGreater 7 = .ok (.iload_n 2, 1) := by decide +kernel
theorem dX12_removeGreater_8 : decode cX12_removeGreater 8 = .ok (.invokestatic 138, 3) := by decide +kernel
theorem dX12_removeGreater_11 : decode cX12_removeGreater 11 = .ok (.ifCond .ne 5, 3) := by decide +kernel
theorem dX12_removeGreater_14 : decode cX12_removeGreater 14 = .ok (.iconst (-1), 1) := by decide +kernel
theorem dX12_removeGreater_15 : decode cX12_removeGreater 15 = .ok (.ireturn, 1) := by decide +kernel
theorem dX12_removeGreater_16 : decode cX12_removeGreater 16 = .ok (.aload_n 0, 1) := by decide +kernel
theorem dX12_removeGreater_17 : decode cX12_removeGreater 17 = .ok (.getfield 11, 3) := by decide +kernel
theorem dX12_removeGreater_20 : decode cX12_removeGreater 20 = .ok (.iload_n 1, 1) := by decide +kernel
theorem dX12_removeGreater_21 : decode cX12_removeGreater 21 = .ok (.aaload, 1) := by decide +kernel
theorem dX12_removeGreater_22 : decode cX12_removeGreater 22 = .ok (.iload_n 2, 1) := by decide +kernel
theorem dX12_removeGreater_23 : decode cX12_removeGreater 23 = .ok (.baload, 1) := by decide +kernel
theorem dX12_removeGreater_24 : decode cX12_removeGreater 24 = .ok (.ifCond .eq 7, 3) := by decide +kernel
theorem dX12_removeGreater_27 : decode cX12_removeGreater 27 = .ok (.iconst 1, 1) := by decide +kernel
theorem dX12_removeGreater_28 : decode cX12_removeGreater 28 = .ok (.goto 4, 3) := by decide +kernel
theorem dX12_removeGreater_31 : decode cX12_removeGreater 31 = .ok (.iconst 0, 1) := by decide +kernel
theorem dX12_removeGreater_32 : decode cX12_removeGreater 32 = .ok (.istore_n 3, 1) := by decide +kernel
theorem dX12_removeGreater_33 : decode cX12_removeGreater 33 = .ok (.aload_n 0, 1) := by decide +kernel
theorem dX12_removeGreater_34 : decode cX12_removeGreater 34 = .ok (.getfield 11, 3) := by decide +kernel
theorem dX12_removeGreater_37 : decode cX12_removeGreater 37 = .ok (.iload_n 1, 1) := by decide +kernel
theorem dX12_removeGreater_38 : decode cX12_removeGreater 38 = .ok (.aaload, 1) := by decide +kernel
theorem dX12_removeGreater_39 : decode cX12_removeGreater 39 = .ok (.iload_n 2, 1) := by decide +kernel
theorem dX12_removeGreater_40 : decode cX12_removeGreater 40 = .ok (.iconst 0, 1) := by decide +kernel
theorem dX12_removeGreater_41 : decode cX12_removeGreater 41 = .ok (.bastore, 1) := by decide +kernel
theorem dX12_removeGreater_42 : decode cX12_removeGreater 42 = .ok (.aload_n 0, 1) := by decide +kernel
theorem dX12_removeGreater_43 : decode cX12_removeGreater 43 = .ok (.invokevirtual 142, 3) := by decide +kernel
theorem dX12_removeGreater_46 : decode cX12_removeGreater 46 = .ok (.iload_n 3, 1) := by decide +kernel
theorem dX12_removeGreater_47 : decode cX12_removeGreater 47 = .ok (.ireturn, 1) := by decide +kernel
set_option maxRecDepth 20000 in
theorem ggX12_isGreater_X12_isLabel : GoodIn wsX12_isGreater wsX12_isLabel := goodIn_r _ [5, 6, 7, 4, 8] (by decide +kernel) (by decide +kernel)
set_option maxRecDepth 20000 in
theorem gX12_isGreater_X12_isLabel : GoodIn wsX12_isGreater (va_wsS RX12 138 yX12_isLabel wsX12_isLabel) := goodIn_app (goodIn_of _ (by decide +kernel)) ggX12_isGreater_X12_isLabel
theorem dX12_isGreater_0 : decode cX12_isGreater 0 = .ok (.iload_n 1, 1) := by decide +kernel
theorem dX12_isGreater_1 : decode cX12_isGreater 1 = .ok (.invokestatic 138, 3) := by decide +kernel
theorem dX12_isGreater_4 : decode cX12_isGreater 4 = .ok (.ifCond .eq 10, 3) := by decide +kernel
theorem dX12_isGreater_7 : decode cX12_isGreater 7 = .ok (.iload_n 2, 1) := by decide +kernel
theorem dX12_isGreater_8 : decode cX12_isGreater 8 = .ok (.invokestatic 138, 3) := by decide +kernel
theorem dX12_isGreater_11 : decode cX12_isGreater 11 = .ok (.ifCond .ne 7, 3) := by decide +kernel
theorem dX12_isGreater_14 : decode cX12_isGreater 14 = .ok (.iconst (-1), 1) := by decide +kernel
theorem dX12_isGreater_15 : decode cX12_isGreater 15 = .ok (.goto 19, 3) := by decide +kernel
theorem dX12_isGreater_18 : decode cX12_isGreater 18 = .ok (.aload_n 0, 1) := by decide +kernel
theorem dX12_isGreater_19 : decode cX12_isGreater 19 = .ok (.getfield 14, 3) := by decide +kernel
theorem dX12_isGreater_22 : decode cX12_isGreater 22 = .ok (.iload_n 1, 1) := by decide +kernel
theorem dX12_isGreater_23 : decode cX12_isGreater 23 = .ok (.aaload, 1) := by decide +kernel
theorem dX12_isGreater_24 : decode cX12_isGreater 24 = .ok (.iload_n 2, 1) := by decide +kernel
theorem dX12_isGreater_25 : decode cX12_isGreater 25 = .ok (.baload, 1) := by decide +kernel
theorem dX12_isGreater_26 : decode cX12_isGreater 26 = .ok (.ifCond .eq 7, 3) := by decide +kernel
theorem dX12_isGreater_29 : decode cX12_isGreater 29 = .ok (.iconst 1, 1) := by decide +kernel
theorem dX12_isGreater_30 : decode cX12_isGreater 30 = .ok (.goto 4, 3) := by decide +kernel
theorem dX12_isGreater_33 : decode cX12_isGreater 33 = .ok (.iconst 0, 1) := by decide +kernel
theorem dX12_isGreater_34 : decode cX12_isGreater 34 = .ok (.ireturn, 1) := by decide +kernel
set_option maxRecDepth 20000 in
theorem ggX12_useNaturalOrder_X12_closeOrder : GoodIn wsX12_useNaturalOrder wsX12_closeOrder := goodIn_r _ [6, 7, 1, 8, 9, 10, 11, 12, 13, 14, 15, 16, 17, 18, 19, 20, 21, 22, 23, 24, 25, 26, 27, 28, 29, 30, 31, 32, 33, 34, 35, 36, 37, 38, 39, 40, 41, 42, 43, 44, 45, 46, 47, 48, 49, 50, 51, 52, 53, 54, 55, 56, 57, 58, 59] (by decide +kernel) (by decide +kernel)
set_option maxRecDepth 20000 in
theorem gX12_useNaturalOrder_X12_closeOrder : GoodIn wsX12_useNaturalOrder (wsV RX12 142 RX12 yX12_closeOrder wsX12_closeOrder) := goodIn_app (goodIn_of _ (by decide +kernel)) ggX12_useNaturalOrder_X12_closeOrder
theorem dX12_useNaturalOrder_0 : decode cX12_useNaturalOrder 0 = .ok (.iconst 0, 1) := by decide +kernel
theorem dX12_useNaturalOrder_1 : decode cX12_useNaturalOrder 1 = .ok (.istore_n 1, 1) := by decide +kernel
theorem dX12_useNaturalOrder_2 : decode cX12_useNaturalOrder 2 = .ok (.iconst 0, 1) := by decide +kernel
theorem dX12_useNaturalOrder_3 : decode cX12_useNaturalOrder 3 = .ok (.istore_n 2, 1) := by decide +kernel
theorem dX12_useNaturalOrder_4 : decode cX12_useNaturalOrder 4 = .ok (.iload_n 2, 1) := by decide +kernel
theorem dX12_useNaturalOrder_5 : decode cX12_useNaturalOrder 5 = .ok (.bipush 8, 2) := by decide +kernel
theorem dX12_useNaturalOrder_7 : decode cX12_useNaturalOrder 7 = .ok (.if_icmp .ge 60, 3) := by decide +kernel
theorem dX12_useNaturalOrder_10 : decode cX12_useNaturalOrder 10 = .ok (.iconst 0, 1) := by decide +kernel
theorem dX12_useNaturalOrder_11 : decode cX12_useNaturalOrder 11 = .ok (.istore_n 3, 1) := by decide +kernel
theorem dX12_useNaturalOrder_12 : decode cX12_useNaturalOrder 12 = .ok (.iload_n 3, 1) := by decide +kernel
theorem dX12_useNaturalOrder_13 : decode cX12_useNaturalOrder 13 = .ok (.bipush 8, 2) := by decide +kernel
theorem dX12_useNaturalOrder_15 : decode cX12_useNaturalOrder 15 = .ok (.if_icmp .ge 46, 3) := by decide +kernel
theorem dX12_useNaturalOrder_18 : decode cX12_useNaturalOrder 18 = .ok (.iload_n 1, 1) := by decide +kernel
theorem dX12_useNaturalOrder_19 : decode cX12_useNaturalOrder 19 = .ok (.aload_n 0, 1) := by decide +kernel
theorem dX12_useNaturalOrder_20 : decode cX12_useNaturalOrder 20 = .ok (.getfield 11, 3) := by decide +kernel
theorem dX12_useNaturalOrder_23 : decode cX12_useNaturalOrder 23 = .ok (.iload_n 2, 1) := by decide +kernel
theorem dX12_useNaturalOrder_24 : decode cX12_useNaturalOrder 24 = .ok (.aaload, 1) := by decide +kernel
theorem dX12_useNaturalOrder_25 : decode cX12_useNaturalOrder 25 = .ok (.iload_n 3, 1) := by decide +kernel
theorem dX12_useNaturalOrder_26 : decode cX12_useNaturalOrder 26 = .ok (.baload, 1) := by decide +kernel
theorem dX12_useNaturalOrder_27 : decode cX12_useNaturalOrder 27 = .ok (.ifCond .eq 7, 3) := by decide +kernel
theorem dX12_useNaturalOrder_30 : decode cX12_useNaturalOrder 30 = .ok (.iconst 1, 1) := by decide +kernel
theorem dX12_useNaturalOrder_31 : decode cX12_useNaturalOrder 31 = .ok (.goto 4, 3) := by decide +kernel
theorem dX12_useNaturalOrder_34 : decode cX12_useNaturalOrder 34 = .ok (.iconst 0, 1) := by decide +kernel
theorem dX12_useNaturalOrder_35 : decode cX12_useNaturalOrder 35 = .ok (.iadd, 1) := by decide +kernel
theorem dX12_useNaturalOrder_36 : decode cX12_useNaturalOrder 36 = .ok (.istore_n 1, 1) := by decide +kernel
theorem dX12_useNaturalOrder_37 : decode cX12_useNaturalOrder 37 = .ok (.aload_n 0, 1) := by decide +kernel
theorem dX12_useNaturalOrder_38 : decode cX12_useNaturalOrder 38 = .ok (.getfield 11, 3) := by decide +kernel
theorem dX12_useNaturalOrder_41 : decode cX12_useNaturalOrder 41 = .ok (.iload_n 2, 1) := by decide +kernel
theorem dX12_useNaturalOrder_42 : decode cX12_useNaturalOrder 42 = .ok (.aaload, 1) := by decide +kernel
theorem dX12_useNaturalOrder_43 : decode cX12_useNaturalOrder 43 = .ok (.iload_n 3, 1) := by decide +kernel
theorem dX12_useNaturalOrder_44 : decode cX12_useNaturalOrder 44 = .ok (.iload_n 2, 1) := by decide +kernel
theorem dX12_useNaturalOrder_45 : decode cX12_useNaturalOrder 45 = .ok (.iload_n 3, 1) := by decide +kernel
theorem dX12_useNaturalOrder_46 : decode cX12_useNaturalOrder 46 = .ok (.if_icmp .le 7, 3) := by decide +kernel
theorem dX12_useNaturalOrder_49 : decode cX12_useNaturalOrder 49 = .ok (.iconst 1, 1) := by decide +kernel
theorem dX12_useNaturalOrder_50 : decode cX12_useNaturalOrder 50 = .ok (.goto 4, 3) := by decide +kernel
theorem dX12_useNaturalOrder_53 : decode cX12_useNaturalOrder 53 = .ok (.iconst 0, 1) := by decide +kernel
theorem dX12_useNaturalOrder_54 : decode cX12_useNaturalOrder 54 = .ok (.bastore, 1) := by decide +kernel
theorem dX12_useNaturalOrder_55 : decode cX12_useNaturalOrder 55 = .ok (.iinc 3 1, 3) := by decide +kernel
theorem dX12_useNaturalOrder_58 : decode cX12_useNaturalOrder 58 = .ok (.goto (-46), 3) := by decide +kernel
theorem dX12_useNaturalOrder_61 : decode cX12_useNaturalOrder 61 = .ok (.iinc 2 1, 3) := by decide +kernel
theorem dX12_useNaturalOrder_64 : decode cX12_useNaturalOrder 64 = .ok (.goto (-60), 3) := by decide +kernel
theorem dX12_useNaturalOrder_67 : decode cX12_useNaturalOrder 67 = .ok (.aload_n 0, 1) := by decide +kernel
theorem dX12_useNaturalOrder_68 : decode cX12_useNaturalOrder 68 = .ok (.invokevirtual 142, 3) := by decide +kernel
theorem dX12_useNaturalOrder_71 : decode cX12_useNaturalOrder 71 = .ok (.iload_n 1, 1) := by decide +kernel
theorem dX12_useNaturalOrder_72 : decode cX12_useNaturalOrder 72 = .ok (.ireturn, 1) := by decide +kernel
theorem dX12_addObject_0 : decode cX12_addObject 0 = .ok (.aload_n 0, 1) := by decide +kernel
theorem dX12_addObject_1 : decode cX12_addObject 1 = .ok (.getfield 132, 3) := by decide +kernel
theorem dX12_addObject_4 : decode cX12_addObject 4 = .ok (.bipush 16, 2) := by decide +kernel
theorem dX12_addObject_6 : decode cX12_addObject 6 = .ok (.if_icmp .ne 6, 3) := by decide +kernel
theorem dX12_addObject_9 : decode cX12_addObject 9 = .ok (.bipush (-3), 2) := by decide +kernel
theorem dX12_addObject_11 : decode cX12_addObject 11 = .ok (.ireturn, 1) := by decide +kernel
theorem dX12_addObject_12 : decode cX12_addObject 12 = .ok (.aload_n 0, 1) := by decide +kernel
theorem dX12_addObject_13 : decode cX12_addObject 13 = .ok (.getfield 27, 3) := by decide +kernel
theorem dX12_addObject_16 : decode cX12_addObject 16 = .ok (.aload_n 0, 1) := by decide +kernel
theorem dX12_addObject_17 : decode cX12_addObject 17 = .ok (.getfield 132, 3) := by decide +kernel
theorem dX12_addObject_20 : decode cX12_addObject 20 = .ok (.iconst (-1), 1) := by decide +kernel
theorem dX12_addObject_21 : decode cX12_addObject 21 = .ok (.iastore, 1) := by decide +kernel
theorem dX12_addObject_22 : decode cX12_addObject 22 = .ok (.aload_n 0, 1) := by decide +kernel
theorem dX12_addObject_23 : decode cX12_addObject 23 = .ok (.dup, 1) := by decide +kernel
theorem dX12_addObject_24 : decode cX12_addObject 24 = .ok (.getfield 132, 3) := by decide +kernel
theorem dX12_addObject_27 : decode cX12_addObject 27 = .ok (.iconst 1, 1) := by decide +kernel
theorem dX12_addObject_28 : decode cX12_addObject 28 = .ok (.iadd, 1) := by decide +kernel
theorem dX12_addObject_29 : decode cX12_addObject 29 = .ok (.putfield 132, 3) := by decide +kernel
theorem dX12_addObject_32 : decode cX12_addObject 32 = .ok (.aload_n 0, 1) := by decide +kernel
theorem dX12_addObject_33 : decode cX12_addObject 33 = .ok (.getfield 132, 3) := by decide +kernel
theorem dX12_addObject_36 : decode cX12_addObject 36 = .ok (.iconst 1, 1) := by decide +kernel
theorem dX12_addObject_37 : decode cX12_addObject 37 = .ok (.isub, 1) := by decide +kernel
theorem dX12_addObject_38 : decode cX12_addObject 38 = .ok (.ireturn, 1) := by decide +kernel
set_option maxRecDepth 20000 in
theorem ggX12_addStep_X12_isObject : GoodIn wsX12_addStep wsX12_isObject := goodIn_r _ [9, 10, 11, 12, 8, 13, 17, 18, 19, 20, 21, 22, 23, 24, 25, 26, 27, 28, 29, 30, 31, 32, 33, 34, 35, 36, 37, 38, 39, 40, 41, 42, 43, 44, 45, 46, 47, 48, 49, 50, 51, 52, 53, 54, 55, 56, 57, 58, 59, 60, 61, 62, 63, 64, 65, 66, 67, 68] (by decide +kernel) (by decide +kernel)
set_option maxRecDepth 20000 in
theorem gX12_addStep_X12_isObject : GoodIn wsX12_addStep (wsV RX12 145 RX12 yX12_isObject wsX12_isObject) := goodIn_app (goodIn_of _ (by decide +kernel)) ggX12_addStep_X12_isObject
set_option maxRecDepth 20000 in
theorem ggX12_addStep_X12_isLabel : GoodIn wsX12_addStep wsX12_isLabel := goodIn_r _ [16, 11, 12, 8, 13] (by decide +kernel) (by decide +kernel)
set_option maxRecDepth 20000 in
theorem gX12_addStep_X12_isLabel : GoodIn wsX12_addStep (va_wsS RX12 138 yX12_isLabel wsX12_isLabel) := goodIn_app (goodIn_of _ (by decide +kernel)) ggX12_addStep_X12_isLabel
theorem dX12_addStep_0 : decode cX12_addStep 0 = .ok (.aload_n 0, 1) := by decide +kernel
theorem dX12_addStep_1 : decode cX12_addStep 1 = .ok (.iload_n 1, 1) := by decide +kernel
theorem dX12_addStep_2 : decode cX12_addStep 2 = .ok (.invokevirtual 145, 3) := by decide +kernel
theorem dX12_addStep_5 : decode cX12_addStep 5 = .ok (.ifCond .eq 18, 3) := by decide +kernel
theorem dX12_addStep_8 : decode cX12_addStep 8 = .ok (.aload_n 0, 1) := by decide +kernel
theorem dX12_addStep_9 : decode cX12_addStep 9 = .ok (.iload_n 2, 1) := by decide +kernel
theorem dX12_addStep_10 : decode cX12_addStep 10 = .ok (.invokevirtual 145, 3) := by decide +kernel
theorem dX12_addStep_13 : decode cX12_addStep 13 = .ok (.ifCond .eq 10, 3) := by decide +kernel
theorem dX12_addStep_16 : decode cX12_addStep 16 = .ok (.iload_n 3, 1) := by decide +kernel
theorem dX12_addStep_17 : decode cX12_addStep 17 = .ok (.invokestatic 138, 3) := by decide +kernel
theorem dX12_addStep_20 : decode cX12_addStep 20 = .ok (.ifCond .ne 5, 3) := by decide +kernel
theorem dX12_addStep_23 : decode cX12_addStep 23 = .ok (.iconst (-1), 1) := by decide +kernel
theorem dX12_addStep_24 : decode cX12_addStep 24 = .ok (.ireturn, 1) := by decide +kernel
theorem dX12_addStep_25 : decode cX12_addStep 25 = .ok (.aload_n 0, 1) := by decide +kernel
theorem dX12_addStep_26 : decode cX12_addStep 26 = .ok (.getfield 135, 3) := by decide +kernel
theorem dX12_addStep_29 : decode cX12_addStep 29 = .ok (.bipush 32, 2) := by decide +kernel
theorem dX12_addStep_31 : decode cX12_addStep 31 = .ok (.if_icmp .ne 6, 3) := by decide +kernel
theorem dX12_addStep_34 : decode cX12_addStep 34 = .ok (.bipush (-3), 2) := by decide +kernel
theorem dX12_addStep_36 : decode cX12_addStep 36 = .ok (.ireturn, 1) := by decide +kernel
theorem dX12_addStep_37 : decode cX12_addStep 37 = .ok (.aload_n 0, 1) := by decide +kernel
theorem dX12_addStep_38 : decode cX12_addStep 38 = .ok (.getfield 17, 3) := by decide +kernel
theorem dX12_addStep_41 : decode cX12_addStep 41 = .ok (.aload_n 0, 1) := by decide +kernel
theorem dX12_addStep_42 : decode cX12_addStep 42 = .ok (.getfield 135, 3) := by decide +kernel
theorem dX12_addStep_45 : decode cX12_addStep 45 = .ok (.iload_n 1, 1) := by decide +kernel
theorem dX12_addStep_46 : decode cX12_addStep 46 = .ok (.iastore, 1) := by decide +kernel
theorem dX12_addStep_47 : decode cX12_addStep 47 = .ok (.aload_n 0, 1) := by decide +kernel
theorem dX12_addStep_48 : decode cX12_addStep 48 = .ok (.getfield 21, 3) := by decide +kernel
theorem dX12_addStep_51 : decode cX12_addStep 51 = .ok (.aload_n 0, 1) := by decide +kernel
theorem dX12_addStep_52 : decode cX12_addStep 52 = .ok (.getfield 135, 3) := by decide +kernel
theorem dX12_addStep_55 : decode cX12_addStep 55 = .ok (.iload_n 2, 1) := by decide +kernel
theorem dX12_addStep_56 : decode cX12_addStep 56 = .ok (.iastore, 1) := by decide +kernel
theorem dX12_addStep_57 : decode cX12_addStep 57 = .ok (.aload_n 0, 1) := by decide +kernel
theorem dX12_addStep_58 : decode cX12_addStep 58 = .ok (.getfield 24, 3) := by decide +kernel
theorem dX12_addStep_61 : decode cX12_addStep 61 = .ok (.aload_n 0, 1) := by decide +kernel
theorem dX12_addStep_62 : decode cX12_addStep 62 = .ok (.getfield 135, 3) := by decide +kernel
theorem dX12_addStep_65 : decode cX12_addStep 65 = .ok (.iload_n 3, 1) := by decide +kernel
theorem dX12_addStep_66 : decode cX12_addStep 66 = .ok (.iastore, 1) := by decide +kernel
theorem dX12_addStep_67 : decode cX12_addStep 67 = .ok (.aload_n 0, 1) := by decide +kernel
theorem dX12_addStep_68 : decode cX12_addStep 68 = .ok (.dup, 1) := by decide +kernel
theorem dX12_addStep_69 : decode cX12_addStep 69 = .ok (.getfield 135, 3) := by decide +kernel
theorem dX12_addStep_72 : decode cX12_addStep 72 = .ok (.iconst 1, 1) := by decide +kernel
theorem dX12_addStep_73 : decode cX12_addStep 73 = .ok (.iadd, 1) := by decide +kernel
theorem dX12_addStep_74 : decode cX12_addStep 74 = .ok (.putfield 135, 3) := by decide +kernel
theorem dX12_addStep_77 : decode cX12_addStep 77 = .ok (.aload_n 0, 1) := by decide +kernel
theorem dX12_addStep_78 : decode cX12_addStep 78 = .ok (.getfield 135, 3) := by decide +kernel
theorem dX12_addStep_81 : decode cX12_addStep 81 = .ok (.iconst 1, 1) := by decide +kernel
theorem dX12_addStep_82 : decode cX12_addStep 82 = .ok (.isub, 1) := by decide +kernel
theorem dX12_addStep_83 : decode cX12_addStep 83 = .ok (.ireturn, 1) := by decide +kernel
set_option maxRecDepth 20000 in
theorem ggX12_removeStep_X12_isStep : GoodIn wsX12_removeStep wsX12_isStep := goodIn_r _ [9, 1, 10, 11, 8, 12, 13, 14, 15, 16, 17, 18, 19, 20, 21, 22, 23, 24, 25, 26, 27, 28, 29, 30, 31, 32, 33, 34, 35, 36, 37, 38, 39, 40, 41, 42, 43, 44, 45, 46, 47, 48, 49, 50, 51, 52, 53, 54, 55, 56, 57, 58, 59, 60, 61, 62, 63, 64] (by decide +kernel) (by decide +kernel)
set_option maxRecDepth 20000 in
theorem gX12_removeStep_X12_isStep : GoodIn wsX12_removeStep (wsV RX12 148 RX12 yX12_isStep wsX12_isStep) := goodIn_app (goodIn_of _ (by decide +kernel)) ggX12_removeStep_X12_isStep
theorem dX12_removeStep_0 : decode cX12_removeStep 0 = .ok (.aload_n 0, 1) := by decide +kernel
theorem dX12_removeStep_1 : decode cX12_removeStep 1 = .ok (.iload_n 1, 1) := by decide +kernel
theorem dX12_removeStep_2 : decode cX12_removeStep 2 = .ok (.invokevirtual 148, 3) := by decide +kernel
theorem dX12_removeStep_5 : decode cX12_removeStep 5 = .ok (.ifCond .ne 5, 3) := by decide +kernel
theorem dX12_removeStep_8 : decode cX12_removeStep 8 = .ok (.iconst (-1), 1) := by decide +kernel
theorem dX12_removeStep_9 : decode cX12_removeStep 9 = .ok (.ireturn, 1) := by decide +kernel
theorem dX12_removeStep_10 : decode cX12_removeStep 10 = .ok (.aload_n 0, 1) := by decide +kernel
theorem dX12_removeStep_11 : decode cX12_removeStep 11 = .ok (.dup, 1) := by decide +kernel
theorem dX12_removeStep_12 : decode cX12_removeStep 12 = .ok (.getfield 135, 3) := by decide +kernel
theorem dX12_removeStep_15 : decode cX12_removeStep 15 = .ok (.iconst 1, 1) := by decide +kernel
theorem dX12_removeStep_16 : decode cX12_removeStep 16 = .ok (.isub, 1) := by decide +kernel
theorem dX12_removeStep_17 : decode cX12_removeStep 17 = .ok (.putfield 135, 3) := by decide +kernel
theorem dX12_removeStep_20 : decode cX12_removeStep 20 = .ok (.iload_n 1, 1) := by decide +kernel
theorem dX12_removeStep_21 : decode cX12_removeStep 21 = .ok (.istore_n 2, 1) := by decide +kernel
theorem dX12_removeStep_22 : decode cX12_removeStep 22 = .ok (.iload_n 2, 1) := by decide +kernel
theorem dX12_removeStep_23 : decode cX12_removeStep 23 = .ok (.aload_n 0, 1) := by decide +kernel
theorem dX12_removeStep_24 : decode cX12_removeStep 24 = .ok (.getfield 135, 3) := by decide +kernel
theorem dX12_removeStep_27 : decode cX12_removeStep 27 = .ok (.if_icmp .ge 51, 3) := by decide +kernel
theorem dX12_removeStep_30 : decode cX12_removeStep 30 = .ok (.aload_n 0, 1) := by decide +kernel
theorem dX12_removeStep_31 : decode cX12_removeStep 31 = .ok (.getfield 17, 3) := by decide +kernel
theorem dX12_removeStep_34 : decode cX12_removeStep 34 = .ok (.iload_n 2, 1) := by decide +kernel
theorem dX12_removeStep_35 : decode cX12_removeStep 35 = .ok (.aload_n 0, 1) := by decide +kernel
theorem dX12_removeStep_36 : decode cX12_removeStep 36 = .ok (.getfield 17, 3) := by decide +kernel
theorem dX12_removeStep_39 : decode cX12_removeStep 39 = .ok (.iload_n 2, 1) := by decide +kernel
theorem dX12_removeStep_40 : decode cX12_removeStep 40 = .ok (.iconst 1, 1) := by decide +kernel
theorem dX12_removeStep_41 : decode cX12_removeStep 41 = .ok (.iadd, 1) := by decide +kernel
theorem dX12_removeStep_42 : decode cX12_removeStep 42 = .ok (.iaload, 1) := by decide +kernel
theorem dX12_removeStep_43 : decode cX12_removeStep 43 = .ok (.iastore, 1) := by decide +kernel
theorem dX12_removeStep_44 : decode cX12_removeStep 44 = .ok (.aload_n 0, 1) := by decide +kernel
theorem dX12_removeStep_45 : decode cX12_removeStep 45 = .ok (.getfield 21, 3) := by decide +kernel
theorem dX12_removeStep_48 : decode cX12_removeStep 48 = .ok (.iload_n 2, 1) := by decide +kernel
theorem dX12_removeStep_49 : decode cX12_removeStep 49 = .ok (.aload_n 0, 1) := by decide +kernel
theorem dX12_removeStep_50 : decode cX12_removeStep 50 = .ok (.getfield 21, 3) := by decide +kernel
theorem dX12_removeStep_53 : decode cX12_removeStep 53 = .ok (.iload_n 2, 1) := by decide +kernel
theorem dX12_removeStep_54 : decode cX12_removeStep 54 = .ok (.iconst 1, 1) := by decide +kernel
theorem dX12_removeStep_55 : decode cX12_removeStep 55 = .ok (.iadd, 1) := by decide +kernel
theorem dX12_removeStep_56 : decode cX12_removeStep 56 = .ok (.iaload, 1) := by decide +kernel
theorem dX12_removeStep_57 : decode cX12_removeStep 57 = .ok (.iastore, 1) := by decide +kernel
theorem dX12_removeStep_58 : decode cX12_removeStep 58 = .ok (.aload_n 0, 1) := by decide +kernel
theorem dX12_removeStep_59 : decode cX12_removeStep 59 = .ok (.getfield 24, 3) := by decide +kernel
theorem dX12_removeStep_62 : decode cX12_removeStep 62 = .ok (.iload_n 2, 1) := by decide +kernel
theorem dX12_removeStep_63 : decode cX12_removeStep 63 = .ok (.aload_n 0, 1) := by decide +kernel
theorem dX12_removeStep_64 : decode cX12_removeStep 64 = .ok (.getfield 24, 3) := by decide +kernel
theorem dX12_removeStep_67 : decode cX12_removeStep 67 = .ok (.iload_n 2, 1) := by decide +kernel
theorem dX12_removeStep_68 : decode cX12_removeStep 68 = .ok (.iconst 1, 1) := by decide +kernel
theorem dX12_removeStep_69 : decode cX12_removeStep 69 = .ok (.iadd, 1) := by decide +kernel
theorem dX12_removeStep_70 : decode cX12_removeStep 70 = .ok (.iaload, 1) := by decide +kernel
theorem dX12_removeStep_71 : decode cX12_removeStep 71 = .ok (.iastore, 1) := by decide +kernel
theorem dX12_removeStep_72 : decode cX12_removeStep 72 = .ok (.iinc 2 1, 3) := by decide +kernel
theorem dX12_removeStep_75 : decode cX12_removeStep 75 = .ok (.goto (-53), 3) := by decide +kernel
theorem dX12_removeStep_78 : decode cX12_removeStep 78 = .ok (.aload_n 0, 1) := by decide +kernel
theorem dX12_removeStep_79 : decode cX12_removeStep 79 = .ok (.getfield 135, 3) := by decide +kernel
theorem dX12_removeStep_82 : decode cX12_removeStep 82 = .ok (.ireturn, 1) := by decide +kernel
set_option maxRecDepth 20000 in
theorem ggX12_setLabel_X12_isStep : GoodIn wsX12_setLabel wsX12_isStep := goodIn_r _ [6, 7, 8, 9, 5, 10, 14, 15, 16, 17, 18, 19, 20, 21, 22, 23, 24, 25, 26, 27, 28, 29, 30, 31, 32, 33, 34, 35, 36, 37, 38, 39, 40, 41, 42, 43, 44, 45, 46, 47, 48, 49, 50, 51, 52, 53, 54, 55, 56, 57, 58, 59, 60, 61, 62, 63, 64, 65] (by decide +kernel) (by decide +kernel)
set_option maxRecDepth 20000 in
theorem gX12_setLabel_X12_isStep : GoodIn wsX12_setLabel (wsV RX12 148 RX12 yX12_isStep wsX12_isStep) := goodIn_app (goodIn_of _ (by decide +kernel)) ggX12_setLabel_X12_isStep
set_option maxRecDepth 20000 in
theorem ggX12_setLabel_X12_isLabel : GoodIn wsX12_setLabel wsX12_isLabel := goodIn_r _ [13, 8, 9, 5, 10] (by decide +kernel) (by decide +kernel)
set_option maxRecDepth 20000 in
theorem gX12_setLabel_X12_isLabel : GoodIn wsX12_setLabel (va_wsS RX12 138 yX12_isLabel wsX12_isLabel) := goodIn_app (goodIn_of _ (by decide +kernel)) ggX12_setLabel_X12_isLabel
theorem dX12_setLabel_0 : decode cX12_setLabel 0 = .ok (.aload_n 0, 1) := by decide +kernel
theorem dX12_setLabel_1 : decode cX12_setLabel 1 = .ok (.iload_n 1, 1) := by decide +kernel
theorem dX12_setLabel_2 : decode cX12_setLabel 2 = .ok (.invokevirtual 148, 3) := by decide +kernel
theorem dX12_setLabel_5 : decode cX12_setLabel 5 = .ok (.ifCond .eq 10, 3) := by decide +kernel
theorem dX12_setLabel_8 : decode cX12_setLabel 8 = .ok (.iload_n 2, 1) := by decide +kernel
theorem dX12_setLabel_9 : decode cX12_setLabel 9 = .ok (.invokestatic 138, 3) := by decide +kernel
theorem dX12_setLabel_12 : decode cX12_setLabel 12 = .ok (.ifCond .ne 5, 3) := by decide +kernel
theorem dX12_setLabel_15 : decode cX12_setLabel 15 = .ok (.iconst (-1), 1) := by decide +kernel
theorem dX12_setLabel_16 : decode cX12_setLabel 16 = .ok (.ireturn, 1) := by decide +kernel
theorem dX12_setLabel_17 : decode cX12_setLabel 17 = .ok (.aload_n 0, 1) := by decide +kernel
theorem dX12_setLabel_18 : decode cX12_setLabel 18 = .ok (.getfield 24, 3) := by decide +kernel
theorem dX12_setLabel_21 : decode cX12_setLabel 21 = .ok (.iload_n 1, 1) := by decide +kernel
theorem dX12_setLabel_22 : decode cX12_setLabel 22 = .ok (.iaload, 1) := by decide +kernel
theorem dX12_setLabel_23 : decode cX12_setLabel 23 = .ok (.istore_n 3, 1) := by decide +kernel
theorem dX12_setLabel_24 : decode cX12_setLabel 24 = .ok (.aload_n 0, 1) := by decide +kernel
theorem dX12_setLabel_25 : decode cX12_setLabel 25 = .ok (.getfield 24, 3) := by decide +kernel
theorem dX12_setLabel_28 : decode cX12_setLabel 28 = .ok (.iload_n 1, 1) := by decide +kernel
theorem dX12_setLabel_29 : decode cX12_setLabel 29 = .ok (.iload_n 2, 1) := by decide +kernel
theorem dX12_setLabel_30 : decode cX12_setLabel 30 = .ok (.iastore, 1) := by decide +kernel
theorem dX12_setLabel_31 : decode cX12_setLabel 31 = .ok (.iload_n 3, 1) := by decide +kernel
theorem dX12_setLabel_32 : decode cX12_setLabel 32 = .ok (.ireturn, 1) := by decide +kernel
theorem dX12_clearSystem_0 : decode cX12_clearSystem 0 = .ok (.aload_n 0, 1) := by decide +kernel
theorem dX12_clearSystem_1 : decode cX12_clearSystem 1 = .ok (.getfield 132, 3) := by decide +kernel
theorem dX12_clearSystem_4 : decode cX12_clearSystem 4 = .ok (.istore_n 1, 1) := by decide +kernel
theorem dX12_clearSystem_5 : decode cX12_clearSystem 5 = .ok (.aload_n 0, 1) := by decide +kernel
theorem dX12_clearSystem_6 : decode cX12_clearSystem 6 = .ok (.iconst 0, 1) := by decide +kernel
theorem dX12_clearSystem_7 : decode cX12_clearSystem 7 = .ok (.putfield 132, 3) := by decide +kernel
theorem dX12_clearSystem_10 : decode cX12_clearSystem 10 = .ok (.aload_n 0, 1) := by decide +kernel
theorem dX12_clearSystem_11 : decode cX12_clearSystem 11 = .ok (.iconst 0, 1) := by decide +kernel
theorem dX12_clearSystem_12 : decode cX12_clearSystem 12 = .ok (.putfield 135, 3) := by decide +kernel
theorem dX12_clearSystem_15 : decode cX12_clearSystem 15 = .ok (.iload_n 1, 1) := by decide +kernel
theorem dX12_clearSystem_16 : decode cX12_clearSystem 16 = .ok (.ireturn, 1) := by decide +kernel
theorem dX12_objectCount_0 : decode cX12_objectCount 0 = .ok (.aload_n 0, 1) := by decide +kernel
theorem dX12_objectCount_1 : decode cX12_objectCount 1 = .ok (.getfield 132, 3) := by decide +kernel
theorem dX12_objectCount_4 : decode cX12_objectCount 4 = .ok (.ireturn, 1) := by decide +kernel
theorem dX12_stepCount_0 : decode cX12_stepCount 0 = .ok (.aload_n 0, 1) := by decide +kernel
theorem dX12_stepCount_1 : decode cX12_stepCount 1 = .ok (.getfield 135, 3) := by decide +kernel
theorem dX12_stepCount_4 : decode cX12_stepCount 4 = .ok (.ireturn, 1) := by decide +kernel
set_option maxRecDepth 20000 in
theorem ggX12_source_X12_isStep : GoodIn wsX12_source wsX12_isStep := goodIn_r _ [6, 7, 8, 9, 5, 10, 11, 12, 13, 14, 15, 16, 17, 18, 19, 20, 21, 22, 23, 24, 25, 26, 27, 28, 29, 30, 31, 32, 33, 34, 35, 36, 37, 38, 39, 40, 41, 42, 43, 44, 45, 46, 47, 48, 49, 50, 51, 52, 53, 54, 55, 56, 57, 58, 59, 60, 61, 62] (by decide +kernel) (by decide +kernel)
set_option maxRecDepth 20000 in
theorem gX12_source_X12_isStep : GoodIn wsX12_source (wsV RX12 148 RX12 yX12_isStep wsX12_isStep) := goodIn_app (goodIn_of _ (by decide +kernel)) ggX12_source_X12_isStep
theorem dX12_source_0 : decode cX12_source 0 = .ok (.aload_n 0, 1) := by decide +kernel
theorem dX12_source_1 : decode cX12_source 1 = .ok (.iload_n 1, 1) := by decide +kernel
theorem dX12_source_2 : decode cX12_source 2 = .ok (.invokevirtual 148, 3) := by decide +kernel
theorem dX12_source_5 : decode cX12_source 5 = .ok (.ifCond .eq 12, 3) := by decide +kernel
theorem dX12_source_8 : decode cX12_source 8 = .ok (.aload_n 0, 1) := by decide +kernel
theorem dX12_source_9 : decode cX12_source 9 = .ok (.getfield 17, 3) := by decide +kernel
theorem dX12_source_12 : decode cX12_source 12 = .ok (.iload_n 1, 1) := by decide +kernel
theorem dX12_source_13 : decode cX12_source 13 = .ok (.iaload, 1) := by decide +kernel
theorem dX12_source_14 : decode cX12_source 14 = .ok (.goto 4, 3) := by decide +kernel
theorem dX12_source_17 : decode cX12_source 17 = .ok (.iconst (-1), 1) := by decide +kernel
theorem dX12_source_18 : decode cX12_source 18 = .ok (.ireturn, 1) := by decide +kernel
set_option maxRecDepth 20000 in
theorem ggX12_target_X12_isStep : GoodIn wsX12_target wsX12_isStep := goodIn_r _ [6, 7, 8, 9, 5, 10, 11, 12, 13, 14, 15, 16, 17, 18, 19, 20, 21, 22, 23, 24, 25, 26, 27, 28, 29, 30, 31, 32, 33, 34, 35, 36, 37, 38, 39, 40, 41, 42, 43, 44, 45, 46, 47, 48, 49, 50, 51, 52, 53, 54, 55, 56, 57, 58, 59, 60, 61, 62] (by decide +kernel) (by decide +kernel)
set_option maxRecDepth 20000 in
theorem gX12_target_X12_isStep : GoodIn wsX12_target (wsV RX12 148 RX12 yX12_isStep wsX12_isStep) := goodIn_app (goodIn_of _ (by decide +kernel)) ggX12_target_X12_isStep
theorem dX12_target_0 : decode cX12_target 0 = .ok (.aload_n 0, 1) := by decide +kernel
theorem dX12_target_1 : decode cX12_target 1 = .ok (.iload_n 1, 1) := by decide +kernel
theorem dX12_target_2 : decode cX12_target 2 = .ok (.invokevirtual 148, 3) := by decide +kernel
theorem dX12_target_5 : decode cX12_target 5 = .ok (.ifCond .eq 12, 3) := by decide +kernel
theorem dX12_target_8 : decode cX12_target 8 = .ok (.aload_n 0, 1) := by decide +kernel
theorem dX12_target_9 : decode cX12_target 9 = .ok (.getfield 21, 3) := by decide +kernel
theorem dX12_target_12 : decode cX12_target 12 = .ok (.iload_n 1, 1) := by decide +kernel
theorem dX12_target_13 : decode cX12_target 13 = .ok (.iaload, 1) := by decide +kernel
theorem dX12_target_14 : decode cX12_target 14 = .ok (.goto 4, 3) := by decide +kernel
theorem dX12_target_17 : decode cX12_target 17 = .ok (.iconst (-1), 1) := by decide +kernel
theorem dX12_target_18 : decode cX12_target 18 = .ok (.ireturn, 1) := by decide +kernel
set_option maxRecDepth 20000 in
theorem ggX12_label_X12_isStep : GoodIn wsX12_label wsX12_isStep := goodIn_r _ [6, 7, 8, 9, 5, 10, 11, 12, 13, 14, 15, 16, 17, 18, 19, 20, 21, 22, 23, 24, 25, 26, 27, 28, 29, 30, 31, 32, 33, 34, 35, 36, 37, 38, 39, 40, 41, 42, 43, 44, 45, 46, 47, 48, 49, 50, 51, 52, 53, 54, 55, 56, 57, 58, 59, 60, 61, 62] (by decide +kernel) (by decide +kernel)
set_option maxRecDepth 20000 in
theorem gX12_label_X12_isStep : GoodIn wsX12_label (wsV RX12 148 RX12 yX12_isStep wsX12_isStep) := goodIn_app (goodIn_of _ (by decide +kernel)) ggX12_label_X12_isStep
theorem dX12_label_0 : decode cX12_label 0 = .ok (.aload_n 0, 1) := by decide +kernel
theorem dX12_label_1 : decode cX12_label 1 = .ok (.iload_n 1, 1) := by decide +kernel
theorem dX12_label_2 : decode cX12_label 2 = .ok (.invokevirtual 148, 3) := by decide +kernel
theorem dX12_label_5 : decode cX12_label 5 = .ok (.ifCond .eq 12, 3) := by decide +kernel
theorem dX12_label_8 : decode cX12_label 8 = .ok (.aload_n 0, 1) := by decide +kernel
theorem dX12_label_9 : decode cX12_label 9 = .ok (.getfield 24, 3) := by decide +kernel
theorem dX12_label_12 : decode cX12_label 12 = .ok (.iload_n 1, 1) := by decide +kernel
theorem dX12_label_13 : decode cX12_label 13 = .ok (.iaload, 1) := by decide +kernel
theorem dX12_label_14 : decode cX12_label 14 = .ok (.goto 4, 3) := by decide +kernel
theorem dX12_label_17 : decode cX12_label 17 = .ok (.iconst (-1), 1) := by decide +kernel
theorem dX12_label_18 : decode cX12_label 18 = .ok (.ireturn, 1) := by decide +kernel
theorem dX12_findDistances_0 : decode cX12_findDistances 0 = .ok (.iconst 0, 1) := by decide +kernel
theorem dX12_findDistances_1 : decode cX12_findDistances 1 = .ok (.istore_n 1, 1) := by decide +kernel
theorem dX12_findDistances_2 : decode cX12_findDistances 2 = .ok (.iload_n 1, 1) := by decide +kernel
theorem dX12_findDistances_3 : decode cX12_findDistances 3 = .ok (.aload_n 0, 1) := by decide +kernel
theorem dX12_findDistances_4 : decode cX12_findDistances 4 = .ok (.getfield 132, 3) := by decide +kernel
theorem dX12_findDistances_7 : decode cX12_findDistances 7 = .ok (.if_icmp .ge 45, 3) := by decide +kernel
theorem dX12_findDistances_10 : decode cX12_findDistances 10 = .ok (.iconst 0, 1) := by decide +kernel
theorem dX12_findDistances_11 : decode cX12_findDistances 11 = .ok (.istore_n 2, 1) := by decide +kernel
theorem dX12_findDistances_12 : decode cX12_findDistances 12 = .ok (.iload_n 2, 1) := by decide +kernel
theorem dX12_findDistances_13 : decode cX12_findDistances 13 = .ok (.aload_n 0, 1) := by decide +kernel
theorem dX12_findDistances_14 : decode cX12_findDistances 14 = .ok (.getfield 132, 3) := by decide +kernel
theorem dX12_findDistances_17 : decode cX12_findDistances 17 = .ok (.if_icmp .ge 29, 3) := by decide +kernel
theorem dX12_findDistances_20 : decode cX12_findDistances 20 = .ok (.aload_n 0, 1) := by decide +kernel
theorem dX12_findDistances_21 : decode cX12_findDistances 21 = .ok (.getfield 35, 3) := by decide +kernel
theorem dX12_findDistances_24 : decode cX12_findDistances 24 = .ok (.iload_n 1, 1) := by decide +kernel
theorem dX12_findDistances_25 : decode cX12_findDistances 25 = .ok (.aaload, 1) := by decide +kernel
theorem dX12_findDistances_26 : decode cX12_findDistances 26 = .ok (.iload_n 2, 1) := by decide +kernel
theorem dX12_findDistances_27 : decode cX12_findDistances 27 = .ok (.iload_n 1, 1) := by decide +kernel
theorem dX12_findDistances_28 : decode cX12_findDistances 28 = .ok (.iload_n 2, 1) := by decide +kernel
theorem dX12_findDistances_29 : decode cX12_findDistances 29 = .ok (.if_icmp .ne 7, 3) := by decide +kernel
theorem dX12_findDistances_32 : decode cX12_findDistances 32 = .ok (.iconst 0, 1) := by decide +kernel
theorem dX12_findDistances_33 : decode cX12_findDistances 33 = .ok (.goto 6, 3) := by decide +kernel
theorem dX12_findDistances_36 : decode cX12_findDistances 36 = .ok (.sipush 1000, 3) := by decide +kernel
theorem dX12_findDistances_39 : decode cX12_findDistances 39 = .ok (.iastore, 1) := by decide +kernel
theorem dX12_findDistances_40 : decode cX12_findDistances 40 = .ok (.iinc 2 1, 3) := by decide +kernel
theorem dX12_findDistances_43 : decode cX12_findDistances 43 = .ok (.goto (-31), 3) := by decide +kernel
theorem dX12_findDistances_46 : decode cX12_findDistances 46 = .ok (.iinc 1 1, 3) := by decide +kernel
theorem dX12_findDistances_49 : decode cX12_findDistances 49 = .ok (.goto (-47), 3) := by decide +kernel
theorem dX12_findDistances_52 : decode cX12_findDistances 52 = .ok (.iconst 0, 1) := by decide +kernel
theorem dX12_findDistances_53 : decode cX12_findDistances 53 = .ok (.istore_n 1, 1) := by decide +kernel
theorem dX12_findDistances_54 : decode cX12_findDistances 54 = .ok (.iload_n 1, 1) := by decide +kernel
theorem dX12_findDistances_55 : decode cX12_findDistances 55 = .ok (.aload_n 0, 1) := by decide +kernel
theorem dX12_findDistances_56 : decode cX12_findDistances 56 = .ok (.getfield 135, 3) := by decide +kernel
theorem dX12_findDistances_59 : decode cX12_findDistances 59 = .ok (.if_icmp .ge 43, 3) := by decide +kernel
theorem dX12_findDistances_62 : decode cX12_findDistances 62 = .ok (.aload_n 0, 1) := by decide +kernel
theorem dX12_findDistances_63 : decode cX12_findDistances 63 = .ok (.getfield 17, 3) := by decide +kernel
theorem dX12_findDistances_66 : decode cX12_findDistances 66 = .ok (.iload_n 1, 1) := by decide +kernel
theorem dX12_findDistances_67 : decode cX12_findDistances 67 = .ok (.iaload, 1) := by decide +kernel
theorem dX12_findDistances_68 : decode cX12_findDistances 68 = .ok (.aload_n 0, 1) := by decide +kernel
theorem dX12_findDistances_69 : decode cX12_findDistances 69 = .ok (.getfield 21, 3) := by decide +kernel
theorem dX12_findDistances_72 : decode cX12_findDistances 72 = .ok (.iload_n 1, 1) := by decide +kernel
theorem dX12_findDistances_73 : decode cX12_findDistances 73 = .ok (.iaload, 1) := by decide +kernel
theorem dX12_findDistances_74 : decode cX12_findDistances 74 = .ok (.if_icmp .eq 22, 3) := by decide +kernel
theorem dX12_findDistances_77 : decode cX12_findDistances 77 = .ok (.aload_n 0, 1) := by decide +kernel
theorem dX12_findDistances_78 : decode cX12_findDistances 78 = .ok (.getfield 35, 3) := by decide +kernel
theorem dX12_findDistances_81 : decode cX12_findDistances 81 = .ok (.aload_n 0, 1) := by decide +kernel
theorem dX12_findDistances_82 : decode cX12_findDistances 82 = .ok (.getfield 17, 3) := by decide +kernel
theorem dX12_findDistances_85 : decode cX12_findDistances 85 = .ok (.iload_n 1, 1) := by decide +kernel
theorem dX12_findDistances_86 : decode cX12_findDistances 86 = .ok (.iaload, 1) := by decide +kernel
theorem dX12_findDistances_87 : decode cX12_findDistances 87 = .ok (.aaload, 1) := by decide +kernel
theorem dX12_findDistances_88 : decode cX12_findDistances 88 = .ok (.aload_n 0, 1) := by decide +kernel
theorem dX12_findDistances_89 : decode cX12_findDistances 89 = .ok (.getfield 21, 3) := by decide +kernel
theorem dX12_findDistances_92 : decode cX12_findDistances 92 = .ok (.iload_n 1, 1) := by decide +kernel
theorem dX12_findDistances_93 : decode cX12_findDistances 93 = .ok (.iaload, 1) := by decide +kernel
theorem dX12_findDistances_94 : decode cX12_findDistances 94 = .ok (.iconst 1, 1) := by decide +kernel
theorem dX12_findDistances_95 : decode cX12_findDistances 95 = .ok (.iastore, 1) := by decide +kernel
theorem dX12_findDistances_96 : decode cX12_findDistances 96 = .ok (.iinc 1 1, 3) := by decide +kernel
theorem dX12_findDistances_99 : decode cX12_findDistances 99 = .ok (.goto (-45), 3) := by decide +kernel
theorem dX12_findDistances_102 : decode cX12_findDistances 102 = .ok (.iconst 0, 1) := by decide +kernel
theorem dX12_findDistances_103 : decode cX12_findDistances 103 = .ok (.istore_n 1, 1) := by decide +kernel
theorem dX12_findDistances_104 : decode cX12_findDistances 104 = .ok (.iload_n 1, 1) := by decide +kernel
theorem dX12_findDistances_105 : decode cX12_findDistances 105 = .ok (.aload_n 0, 1) := by decide +kernel
theorem dX12_findDistances_106 : decode cX12_findDistances 106 = .ok (.getfield 132, 3) := by decide +kernel
theorem dX12_findDistances_109 : decode cX12_findDistances 109 = .ok (.if_icmp .ge 94, 3) := by decide +kernel
theorem dX12_findDistances_112 : decode cX12_findDistances 112 = .ok (.iconst 0, 1) := by decide +kernel
theorem dX12_findDistances_113 : decode cX12_findDistances 113 = .ok (.istore_n 2, 1) := by decide +kernel
theorem dX12_findDistances_114 : decode cX12_findDistances 114 = .ok (.iload_n 2, 1) := by decide +kernel
theorem dX12_findDistances_115 : decode cX12_findDistances 115 = .ok (.aload_n 0, 1) := by decide +kernel
theorem dX12_findDistances_116 : decode cX12_findDistances 116 = .ok (.getfield 132, 3) := by decide +kernel
theorem dX12_findDistances_119 : decode cX12_findDistances 119 = .ok (.if_icmp .ge 78, 3) := by decide +kernel
theorem dX12_findDistances_122 : decode cX12_findDistances 122 = .ok (.iconst 0, 1) := by decide +kernel
theorem dX12_findDistances_123 : decode cX12_findDistances 123 = .ok (.istore_n 3, 1) := by decide +kernel
theorem dX12_findDistances_124 : decode cX12_findDistances 124 = .ok (.iload_n 3, 1) := by decide +kernel
theorem dX12_findDistances_125 : decode cX12_findDistances 125 = .ok (.aload_n 0, 1) := by decide +kernel
theorem dX12_findDistances_126 : decode cX12_findDistances 126 = .ok (.getfield 132, 3) := by decide +kernel
theorem dX12_findDistances_129 : decode cX12_findDistances 129 = .ok (.if_icmp .ge 62, 3) := by decide +kernel
theorem dX12_findDistances_132 : decode cX12_findDistances 132 = .ok (.aload_n 0, 1) := by decide +kernel
theorem dX12_findDistances_133 : decode cX12_findDistances 133 = .ok (.getfield 35, 3) := by decide +kernel
theorem dX12_findDistances_136 : decode cX12_findDistances 136 = .ok (.iload_n 2, 1) := by decide +kernel
theorem dX12_findDistances_137 : decode cX12_findDistances 137 = .ok (.aaload, 1) := by decide +kernel
theorem dX12_findDistances_138 : decode cX12_findDistances 138 = .ok (.iload_n 1, 1) := by decide +kernel
theorem dX12_findDistances_139 : decode cX12_findDistances 139 = .ok (.iaload, 1) := by decide +kernel
theorem dX12_findDistances_140 : decode cX12_findDistances 140 = .ok (.aload_n 0, 1) := by decide +kernel
theorem dX12_findDistances_141 : decode cX12_findDistances 141 = .ok (.getfield 35, 3) := by decide +kernel
theorem dX12_findDistances_144 : decode cX12_findDistances 144 = .ok (.iload_n 1, 1) := by decide +kernel
theorem dX12_findDistances_145 : decode cX12_findDistances 145 = .ok (.aaload, 1) := by decide +kernel
theorem dX12_findDistances_146 : decode cX12_findDistances 146 = .ok (.iload_n 3, 1) := by decide +kernel
theorem dX12_findDistances_147 : decode cX12_findDistances 147 = .ok (.iaload, 1) := by decide +kernel
theorem dX12_findDistances_148 : decode cX12_findDistances 148 = .ok (.iadd, 1) := by decide +kernel
theorem dX12_findDistances_149 : decode cX12_findDistances 149 = .ok (.istore 4, 2) := by decide +kernel
theorem dX12_findDistances_151 : decode cX12_findDistances 151 = .ok (.aload_n 0, 1) := by decide +kernel
theorem dX12_findDistances_152 : decode cX12_findDistances 152 = .ok (.getfield 35, 3) := by decide +kernel
theorem dX12_findDistances_155 : decode cX12_findDistances 155 = .ok (.iload_n 2, 1) := by decide +kernel
theorem dX12_findDistances_156 : decode cX12_findDistances 156 = .ok (.aaload, 1) := by decide +kernel
theorem dX12_findDistances_157 : decode cX12_findDistances 157 = .ok (.iload_n 3, 1) := by decide +kernel
theorem dX12_findDistances_158 : decode cX12_findDistances 158 = .ok (.iload 4, 2) := by decide +kernel
theorem dX12_findDistances_160 : decode cX12_findDistances 160 = .ok (.aload_n 0, 1) := by decide +kernel
theorem dX12_findDistances_161 : decode cX12_findDistances 161 = .ok (.getfield 35, 3) := by decide +kernel
theorem dX12_findDistances_164 : decode cX12_findDistances 164 = .ok (.iload_n 2, 1) := by decide +kernel
theorem dX12_findDistances_165 : decode cX12_findDistances 165 = .ok (.aaload, 1) := by decide +kernel
theorem dX12_findDistances_166 : decode cX12_findDistances 166 = .ok (.iload_n 3, 1) := by decide +kernel
theorem dX12_findDistances_167 : decode cX12_findDistances 167 = .ok (.iaload, 1) := by decide +kernel
theorem dX12_findDistances_168 : decode cX12_findDistances 168 = .ok (.if_icmp .ge 8, 3) := by decide +kernel
theorem dX12_findDistances_171 : decode cX12_findDistances 171 = .ok (.iload 4, 2) := by decide +kernel
theorem dX12_findDistances_173 : decode cX12_findDistances 173 = .ok (.goto 11, 3) := by decide +kernel
theorem dX12_findDistances_176 : decode cX12_findDistances 176 = .ok (.aload_n 0, 1) := by decide +kernel
theorem dX12_findDistances_177 : decode cX12_findDistances 177 = .ok (.getfield 35, 3) := by decide +kernel
theorem dX12_findDistances_180 : decode cX12_findDistances 180 = .ok (.iload_n 2, 1) := by decide +kernel
theorem dX12_findDistances_181 : decode cX12_findDistances 181 = .ok (.aaload, 1) := by decide +kernel
theorem dX12_findDistances_182 : decode cX12_findDistances 182 = .ok (.iload_n 3, 1) := by decide +kernel
theorem dX12_findDistances_183 : decode cX12_findDistances 183 = .ok (.iaload, 1) := by decide +kernel
theorem dX12_findDistances_184 : decode cX12_findDistances 184 = .ok (.iastore, 1) := by decide +kernel
theorem dX12_findDistances_185 : decode cX12_findDistances 185 = .ok (.iinc 3 1, 3) := by decide +kernel
theorem dX12_findDistances_188 : decode cX12_findDistances 188 = .ok (.goto (-64), 3) := by decide +kernel
theorem dX12_findDistances_191 : decode cX12_findDistances 191 = .ok (.iinc 2 1, 3) := by decide +kernel
theorem dX12_findDistances_194 : decode cX12_findDistances 194 = .ok (.goto (-80), 3) := by decide +kernel
theorem dX12_findDistances_197 : decode cX12_findDistances 197 = .ok (.iinc 1 1, 3) := by decide +kernel
theorem dX12_findDistances_200 : decode cX12_findDistances 200 = .ok (.goto (-96), 3) := by decide +kernel
theorem dX12_findDistances_203 : decode cX12_findDistances 203 = .ok (.return_, 1) := by decide +kernel
set_option maxRecDepth 20000 in
theorem ggX12_distance_X12_isObject : GoodIn wsX12_distance wsX12_isObject := goodIn_r _ [6, 7, 8, 9, 5, 10, 18, 19, 20, 21, 22, 23, 24, 25, 26, 27, 28, 29, 30, 31, 32, 33, 34, 35, 36, 37, 38, 39, 40, 41, 42, 43, 44, 45, 46, 47, 48, 49, 50, 51, 52, 53, 54, 55, 56, 57, 58, 59, 60, 61, 62, 63, 64, 65, 66, 67, 68, 69] (by decide +kernel) (by decide +kernel)
set_option maxRecDepth 20000 in
theorem gX12_distance_X12_isObject : GoodIn wsX12_distance (wsV RX12 145 RX12 yX12_isObject wsX12_isObject) := goodIn_app (goodIn_of _ (by decide +kernel)) ggX12_distance_X12_isObject
set_option maxRecDepth 20000 in
theorem ggX12_distance_X12_findDistances : GoodIn wsX12_distance wsX12_findDistances := goodIn_r _ [14, 7, 1, 15, 16, 17, 18, 19, 20, 21, 22, 23, 24, 25, 26, 27, 28, 29, 30, 31, 32, 33, 34, 35, 36, 37, 38, 39, 40, 41, 42, 43, 44, 45, 46, 47, 48, 49, 50, 51, 52, 53, 54, 55, 56, 57, 58, 59, 60, 61, 62, 63, 64, 65, 66, 67, 68, 69] (by decide +kernel) (by decide +kernel)
set_option maxRecDepth 20000 in
theorem gX12_distance_X12_findDistances : GoodIn wsX12_distance (wsV RX12 151 RX12 yX12_findDistances wsX12_findDistances) := goodIn_app (goodIn_of _ (by decide +kernel)) ggX12_distance_X12_findDistances
theorem dX12_distance_0 : decode cX12_distance 0 = .ok (.aload_n 0, 1) := by decide +kernel
theorem dX12_distance_1 : decode cX12_distance 1 = .ok (.iload_n 1, 1) := by decide +kernel
theorem dX12_distance_2 : decode cX12_distance 2 = .ok (.invokevirtual 145, 3) := by decide +kernel
theorem dX12_distance_5 : decode cX12_distance 5 = .ok (.ifCond .eq 11, 3) := by decide +kernel
theorem dX12_distance_8 : decode cX12_distance 8 = .ok (.aload_n 0, 1) := by decide +kernel
theorem dX12_distance_9 : decode cX12_distance 9 = .ok (.iload_n 2, 1) := by decide +kernel
theorem dX12_distance_10 : decode cX12_distance 10 = .ok (.invokevirtual 145, 3) := by decide +kernel
theorem dX12_distance_13 : decode cX12_distance 13 = .ok (.ifCond .ne 5, 3) := by decide +kernel
theorem dX12_distance_16 : decode cX12_distance 16 = .ok (.iconst (-1), 1) := by decide +kernel
theorem dX12_distance_17 : decode cX12_distance 17 = .ok (.ireturn, 1) := by decide +kernel
theorem dX12_distance_18 : decode cX12_distance 18 = .ok (.aload_n 0, 1) := by decide +kernel
theorem dX12_distance_19 : decode cX12_distance 19 = .ok (.invokevirtual 151, 3) := by decide +kernel
theorem dX12_distance_22 : decode cX12_distance 22 = .ok (.aload_n 0, 1) := by decide +kernel
theorem dX12_distance_23 : decode cX12_distance 23 = .ok (.getfield 35, 3) := by decide +kernel
theorem dX12_distance_26 : decode cX12_distance 26 = .ok (.iload_n 1, 1) := by decide +kernel
theorem dX12_distance_27 : decode cX12_distance 27 = .ok (.aaload, 1) := by decide +kernel
theorem dX12_distance_28 : decode cX12_distance 28 = .ok (.iload_n 2, 1) := by decide +kernel
theorem dX12_distance_29 : decode cX12_distance 29 = .ok (.iaload, 1) := by decide +kernel
theorem dX12_distance_30 : decode cX12_distance 30 = .ok (.sipush 1000, 3) := by decide +kernel
theorem dX12_distance_33 : decode cX12_distance 33 = .ok (.if_icmp .ge 14, 3) := by decide +kernel
theorem dX12_distance_36 : decode cX12_distance 36 = .ok (.aload_n 0, 1) := by decide +kernel
theorem dX12_distance_37 : decode cX12_distance 37 = .ok (.getfield 35, 3) := by decide +kernel
theorem dX12_distance_40 : decode cX12_distance 40 = .ok (.iload_n 1, 1) := by decide +kernel
theorem dX12_distance_41 : decode cX12_distance 41 = .ok (.aaload, 1) := by decide +kernel
theorem dX12_distance_42 : decode cX12_distance 42 = .ok (.iload_n 2, 1) := by decide +kernel
theorem dX12_distance_43 : decode cX12_distance 43 = .ok (.iaload, 1) := by decide +kernel
theorem dX12_distance_44 : decode cX12_distance 44 = .ok (.goto 5, 3) := by decide +kernel
theorem dX12_distance_47 : decode cX12_distance 47 = .ok (.bipush (-2), 2) := by decide +kernel
theorem dX12_distance_49 : decode cX12_distance 49 = .ok (.ireturn, 1) := by decide +kernel
theorem dX12_reachedFrom_0 : decode cX12_reachedFrom 0 = .ok (.iconst 0, 1) := by decide +kernel
theorem dX12_reachedFrom_1 : decode cX12_reachedFrom 1 = .ok (.istore_n 2, 1) := by decide +kernel
theorem dX12_reachedFrom_2 : decode cX12_reachedFrom 2 = .ok (.iconst 0, 1) := by decide +kernel
theorem dX12_reachedFrom_3 : decode cX12_reachedFrom 3 = .ok (.istore_n 3, 1) := by decide +kernel
theorem dX12_reachedFrom_4 : decode cX12_reachedFrom 4 = .ok (.iload_n 3, 1) := by decide +kernel
theorem dX12_reachedFrom_5 : decode cX12_reachedFrom 5 = .ok (.aload_n 0, 1) := by decide +kernel
theorem dX12_reachedFrom_6 : decode cX12_reachedFrom 6 = .ok (.getfield 132, 3) := by decide +kernel
theorem dX12_reachedFrom_9 : decode cX12_reachedFrom 9 = .ok (.if_icmp .ge 33, 3) := by decide +kernel
theorem dX12_reachedFrom_12 : decode cX12_reachedFrom 12 = .ok (.iload_n 2, 1) := by decide +kernel
theorem dX12_reachedFrom_13 : decode cX12_reachedFrom 13 = .ok (.aload_n 0, 1) := by decide +kernel
theorem dX12_reachedFrom_14 : decode cX12_reachedFrom 14 = .ok (.getfield 35, 3) := by decide +kernel
theorem dX12_reachedFrom_17 : decode cX12_reachedFrom 17 = .ok (.iload_n 1, 1) := by decide +kernel
theorem dX12_reachedFrom_18 : decode cX12_reachedFrom 18 = .ok (.aaload, 1) := by decide +kernel
theorem dX12_reachedFrom_19 : decode cX12_reachedFrom 19 = .ok (.iload_n 3, 1) := by decide +kernel
theorem dX12_reachedFrom_20 : decode cX12_reachedFrom 20 = .ok (.iaload, 1) := by decide +kernel
theorem dX12_reachedFrom_21 : decode cX12_reachedFrom 21 = .ok (.sipush 1000, 3) := by decide +kernel
theorem dX12_reachedFrom_24 : decode cX12_reachedFrom 24 = .ok (.if_icmp .ge 9, 3) := by decide +kernel
theorem dX12_reachedFrom_27 : decode cX12_reachedFrom 27 = .ok (.iconst 1, 1) := by decide +kernel
theorem dX12_reachedFrom_28 : decode cX12_reachedFrom 28 = .ok (.iload_n 3, 1) := by decide +kernel
theorem dX12_reachedFrom_29 : decode cX12_reachedFrom 29 = .ok (.ishl, 1) := by decide +kernel
theorem dX12_reachedFrom_30 : decode cX12_reachedFrom 30 = .ok (.goto 4, 3) := by decide +kernel
theorem dX12_reachedFrom_33 : decode cX12_reachedFrom 33 = .ok (.iconst 0, 1) := by decide +kernel
theorem dX12_reachedFrom_34 : decode cX12_reachedFrom 34 = .ok (.ior, 1) := by decide +kernel
theorem dX12_reachedFrom_35 : decode cX12_reachedFrom 35 = .ok (.istore_n 2, 1) := by decide +kernel
theorem dX12_reachedFrom_36 : decode cX12_reachedFrom 36 = .ok (.iinc 3 1, 3) := by decide +kernel
theorem dX12_reachedFrom_39 : decode cX12_reachedFrom 39 = .ok (.goto (-35), 3) := by decide +kernel
theorem dX12_reachedFrom_42 : decode cX12_reachedFrom 42 = .ok (.iload_n 2, 1) := by decide +kernel
theorem dX12_reachedFrom_43 : decode cX12_reachedFrom 43 = .ok (.ireturn, 1) := by decide +kernel
set_option maxRecDepth 20000 in
theorem ggX12_reachable_X12_isObject : GoodIn wsX12_reachable wsX12_isObject := goodIn_r _ [5, 6, 7, 8, 4, 9, 22, 23, 24, 25, 26, 27, 28, 29, 30, 31, 32, 33, 34, 35, 36, 37, 38, 39, 40, 41, 42, 43, 44, 45, 46, 47, 48, 49, 50, 51, 52, 53, 54, 55, 56, 57, 58, 59, 60, 61, 62, 63, 64, 65, 66, 67, 68, 69, 70, 71, 72, 73] (by decide +kernel) (by decide +kernel)
set_option maxRecDepth 20000 in
theorem gX12_reachable_X12_isObject : GoodIn wsX12_reachable (wsV RX12 145 RX12 yX12_isObject wsX12_isObject) := goodIn_app (goodIn_of _ (by decide +kernel)) ggX12_reachable_X12_isObject
set_option maxRecDepth 20000 in
theorem ggX12_reachable_X12_findDistances : GoodIn wsX12_reachable wsX12_findDistances := goodIn_r _ [13, 6, 14, 15, 16, 17, 22, 23, 24, 25, 26, 27, 28, 29, 30, 31, 32, 33, 34, 35, 36, 37, 38, 39, 40, 41, 42, 43, 44, 45, 46, 47, 48, 49, 50, 51, 52, 53, 54, 55, 56, 57, 58, 59, 60, 61, 62, 63, 64, 65, 66, 67, 68, 69, 70, 71, 72, 73] (by decide +kernel) (by decide +kernel)
set_option maxRecDepth 20000 in
theorem gX12_reachable_X12_findDistances : GoodIn wsX12_reachable (wsV RX12 151 RX12 yX12_findDistances wsX12_findDistances) := goodIn_app (goodIn_of _ (by decide +kernel)) ggX12_reachable_X12_findDistances
set_option maxRecDepth 20000 in
theorem ggX12_reachable_X12_reachedFrom : GoodIn wsX12_reachable wsX12_reachedFrom := goodIn_r _ [21, 6, 14, 22, 23, 24, 25, 26, 27, 28, 29, 30, 31, 32, 33, 34, 35, 36, 37, 38, 39, 40, 41, 42, 43, 44, 45, 46, 47, 48, 49, 50, 51, 52, 53, 54, 55, 56, 57, 58, 59, 60, 61, 62, 63, 64, 65, 66, 67, 68, 69, 70, 71, 72, 73] (by decide +kernel) (by decide +kernel)
set_option maxRecDepth 20000 in
theorem gX12_reachable_X12_reachedFrom : GoodIn wsX12_reachable (wsV RX12 154 RX12 yX12_reachedFrom wsX12_reachedFrom) := goodIn_app (goodIn_of _ (by decide +kernel)) ggX12_reachable_X12_reachedFrom
theorem dX12_reachable_0 : decode cX12_reachable 0 = .ok (.aload_n 0, 1) := by decide +kernel
theorem dX12_reachable_1 : decode cX12_reachable 1 = .ok (.iload_n 1, 1) := by decide +kernel
theorem dX12_reachable_2 : decode cX12_reachable 2 = .ok (.invokevirtual 145, 3) := by decide +kernel
theorem dX12_reachable_5 : decode cX12_reachable 5 = .ok (.ifCond .ne 5, 3) := by decide +kernel
theorem dX12_reachable_8 : decode cX12_reachable 8 = .ok (.iconst (-1), 1) := by decide +kernel
theorem dX12_reachable_9 : decode cX12_reachable 9 = .ok (.ireturn, 1) := by decide +kernel
theorem dX12_reachable_10 : decode cX12_reachable 10 = .ok (.aload_n 0, 1) := by decide +kernel
theorem dX12_reachable_11 : decode cX12_reachable 11 = .ok (.invokevirtual 151, 3) := by decide +kernel
theorem dX12_reachable_14 : decode cX12_reachable 14 = .ok (.aload_n 0, 1) := by decide +kernel
theorem dX12_reachable_15 : decode cX12_reachable 15 = .ok (.iload_n 1, 1) := by decide +kernel
theorem dX12_reachable_16 : decode cX12_reachable 16 = .ok (.invokevirtual 154, 3) := by decide +kernel
theorem dX12_reachable_19 : decode cX12_reachable 19 = .ok (.ireturn, 1) := by decide +kernel
theorem dX12_isNormal_0 : decode cX12_isNormal 0 = .ok (.iconst 0, 1) := by decide +kernel
theorem dX12_isNormal_1 : decode cX12_isNormal 1 = .ok (.istore_n 2, 1) := by decide +kernel
theorem dX12_isNormal_2 : decode cX12_isNormal 2 = .ok (.iload_n 2, 1) := by decide +kernel
theorem dX12_isNormal_3 : decode cX12_isNormal 3 = .ok (.aload_n 0, 1) := by decide +kernel
theorem dX12_isNormal_4 : decode cX12_isNormal 4 = .ok (.getfield 135, 3) := by decide +kernel
theorem dX12_isNormal_7 : decode cX12_isNormal 7 = .ok (.if_icmp .ge 21, 3) := by decide +kernel
theorem dX12_isNormal_10 : decode cX12_isNormal 10 = .ok (.aload_n 0, 1) := by decide +kernel
theorem dX12_isNormal_11 : decode cX12_isNormal 11 = .ok (.getfield 17, 3) := by decide +kernel
theorem dX12_isNormal_14 : decode cX12_isNormal 14 = .ok (.iload_n 2, 1) := by decide +kernel
theorem dX12_isNormal_15 : decode cX12_isNormal 15 = .ok (.iaload, 1) := by decide +kernel
theorem dX12_isNormal_16 : decode cX12_isNormal 16 = .ok (.iload_n 1, 1) := by decide +kernel
theorem dX12_isNormal_17 : decode cX12_isNormal 17 = .ok (.if_icmp .ne 5, 3) := by decide +kernel
theorem dX12_isNormal_20 : decode cX12_isNormal 20 = .ok (.iconst 0, 1) := by decide +kernel
theorem dX12_isNormal_21 : decode cX12_isNormal 21 = .ok (.ireturn, 1) := by decide +kernel
theorem dX12_isNormal_22 : decode cX12_isNormal 22 = .ok (.iinc 2 1, 3) := by decide +kernel
theorem dX12_isNormal_25 : decode cX12_isNormal 25 = .ok (.goto (-23), 3) := by decide +kernel
theorem dX12_isNormal_28 : decode cX12_isNormal 28 = .ok (.iconst 1, 1) := by decide +kernel
theorem dX12_isNormal_29 : decode cX12_isNormal 29 = .ok (.ireturn, 1) := by decide +kernel
set_option maxRecDepth 20000 in
theorem ggX12_normalForm_X12_isObject : GoodIn wsX12_normalForm wsX12_isObject := goodIn_r _ [7, 1, 8, 9, 6, 10, 22, 23, 24, 25, 26, 27, 28, 29, 30, 31, 32, 33, 34, 35, 36, 37, 38, 39, 40, 41, 42, 43, 44, 45, 46, 47, 48, 49, 50, 51, 52, 53, 54, 55, 56, 57, 58, 59, 60, 61, 62, 63, 64, 65, 66, 67, 68, 69, 70, 71, 72, 73] (by decide +kernel) (by decide +kernel)
set_option maxRecDepth 20000 in
theorem gX12_normalForm_X12_isObject : GoodIn wsX12_normalForm (wsV RX12 145 RX12 yX12_isObject wsX12_isObject) := goodIn_app (goodIn_of _ (by decide +kernel)) ggX12_normalForm_X12_isObject
set_option maxRecDepth 20000 in
theorem ggX12_normalForm_X12_findDistances : GoodIn wsX12_normalForm wsX12_findDistances := goodIn_r _ [14, 1, 2, 15, 16, 17, 22, 23, 24, 25, 26, 27, 28, 29, 30, 31, 32, 33, 34, 35, 36, 37, 38, 39, 40, 41, 42, 43, 44, 45, 46, 47, 48, 49, 50, 51, 52, 53, 54, 55, 56, 57, 58, 59, 60, 61, 62, 63, 64, 65, 66, 67, 68, 69, 70, 71, 72, 73] (by decide +kernel) (by decide +kernel)
set_option maxRecDepth 20000 in
theorem gX12_normalForm_X12_findDistances : GoodIn wsX12_normalForm (wsV RX12 151 RX12 yX12_findDistances wsX12_findDistances) := goodIn_app (goodIn_of _ (by decide +kernel)) ggX12_normalForm_X12_findDistances
set_option maxRecDepth 20000 in
theorem ggX12_normalForm_X12_isNormal : GoodIn wsX12_normalForm wsX12_isNormal := goodIn_r _ [21, 15, 16, 22, 23, 24, 25, 26, 27, 28, 29, 30, 31, 32, 33, 34, 35, 36, 37, 38, 39, 40, 41, 42, 43, 44, 45, 46, 47, 48, 49, 50, 51, 52, 53, 54, 55, 56, 57, 58, 59, 60, 61, 62, 63, 64, 65, 66, 67, 68, 69, 70, 71, 72, 73] (by decide +kernel) (by decide +kernel)
set_option maxRecDepth 20000 in
theorem gX12_normalForm_X12_isNormal : GoodIn wsX12_normalForm (wsV RX12 158 RX12 yX12_isNormal wsX12_isNormal) := goodIn_app (goodIn_of _ (by decide +kernel)) ggX12_normalForm_X12_isNormal
theorem dX12_normalForm_0 : decode cX12_normalForm 0 = .ok (.aload_n 0, 1) := by decide +kernel
theorem dX12_normalForm_1 : decode cX12_normalForm 1 = .ok (.iload_n 1, 1) := by decide +kernel
theorem dX12_normalForm_2 : decode cX12_normalForm 2 = .ok (.invokevirtual 145, 3) := by decide +kernel
theorem dX12_normalForm_5 : decode cX12_normalForm 5 = .ok (.ifCond .ne 5, 3) := by decide +kernel
theorem dX12_normalForm_8 : decode cX12_normalForm 8 = .ok (.iconst (-1), 1) := by decide +kernel
theorem dX12_normalForm_9 : decode cX12_normalForm 9 = .ok (.ireturn, 1) := by decide +kernel
theorem dX12_normalForm_10 : decode cX12_normalForm 10 = .ok (.aload_n 0, 1) := by decide +kernel
theorem dX12_normalForm_11 : decode cX12_normalForm 11 = .ok (.invokevirtual 151, 3) := by decide +kernel
theorem dX12_normalForm_14 : decode cX12_normalForm 14 = .ok (.bipush (-2), 2) := by decide +kernel
theorem dX12_normalForm_16 : decode cX12_normalForm 16 = .ok (.istore_n 2, 1) := by decide +kernel
theorem dX12_normalForm_17 : decode cX12_normalForm 17 = .ok (.iconst 0, 1) := by decide +kernel
theorem dX12_normalForm_18 : decode cX12_normalForm 18 = .ok (.istore_n 3, 1) := by decide +kernel
theorem dX12_normalForm_19 : decode cX12_normalForm 19 = .ok (.iload_n 3, 1) := by decide +kernel
theorem dX12_normalForm_20 : decode cX12_normalForm 20 = .ok (.aload_n 0, 1) := by decide +kernel
theorem dX12_normalForm_21 : decode cX12_normalForm 21 = .ok (.getfield 132, 3) := by decide +kernel
theorem dX12_normalForm_24 : decode cX12_normalForm 24 = .ok (.if_icmp .ge 42, 3) := by decide +kernel
theorem dX12_normalForm_27 : decode cX12_normalForm 27 = .ok (.aload_n 0, 1) := by decide +kernel
theorem dX12_normalForm_28 : decode cX12_normalForm 28 = .ok (.getfield 35, 3) := by decide +kernel
theorem dX12_normalForm_31 : decode cX12_normalForm 31 = .ok (.iload_n 1, 1) := by decide +kernel
theorem dX12_normalForm_32 : decode cX12_normalForm 32 = .ok (.aaload, 1) := by decide +kernel
theorem dX12_normalForm_33 : decode cX12_normalForm 33 = .ok (.iload_n 3, 1) := by decide +kernel
theorem dX12_normalForm_34 : decode cX12_normalForm 34 = .ok (.iaload, 1) := by decide +kernel
theorem dX12_normalForm_35 : decode cX12_normalForm 35 = .ok (.sipush 1000, 3) := by decide +kernel
theorem dX12_normalForm_38 : decode cX12_normalForm 38 = .ok (.if_icmp .ge 22, 3) := by decide +kernel
theorem dX12_normalForm_41 : decode cX12_normalForm 41 = .ok (.aload_n 0, 1) := by decide +kernel
theorem dX12_normalForm_42 : decode cX12_normalForm 42 = .ok (.iload_n 3, 1) := by decide +kernel
theorem dX12_normalForm_43 : decode cX12_normalForm 43 = .ok (.invokevirtual 158, 3) := by decide +kernel
theorem dX12_normalForm_46 : decode cX12_normalForm 46 = .ok (.ifCond .eq 14, 3) := by decide +kernel
theorem dX12_normalForm_49 : decode cX12_normalForm 49 = .ok (.iload_n 2, 1) := by decide +kernel
theorem dX12_normalForm_50 : decode cX12_normalForm 50 = .ok (.bipush (-2), 2) := by decide +kernel
theorem dX12_normalForm_52 : decode cX12_normalForm 52 = .ok (.if_icmp .eq 6, 3) := by decide +kernel
theorem dX12_normalForm_55 : decode cX12_normalForm 55 = .ok (.bipush (-7), 2) := by decide +kernel
theorem dX12_normalForm_57 : decode cX12_normalForm 57 = .ok (.ireturn, 1) := by decide +kernel
theorem dX12_normalForm_58 : decode cX12_normalForm 58 = .ok (.iload_n 3, 1) := by decide +kernel
theorem dX12_normalForm_59 : decode cX12_normalForm 59 = .ok (.istore_n 2, 1) := by decide +kernel
theorem dX12_normalForm_60 : decode cX12_normalForm 60 = .ok (.iinc 3 1, 3) := by decide +kernel
theorem dX12_normalForm_63 : decode cX12_normalForm 63 = .ok (.goto (-44), 3) := by decide +kernel
theorem dX12_normalForm_66 : decode cX12_normalForm 66 = .ok (.iload_n 2, 1) := by decide +kernel
theorem dX12_normalForm_67 : decode cX12_normalForm 67 = .ok (.ireturn, 1) := by decide +kernel
set_option maxRecDepth 20000 in
theorem ggX12_component_X12_isObject : GoodIn wsX12_component wsX12_isObject := goodIn_r _ [9, 1, 10, 11, 8, 12, 13, 14, 15, 16, 17, 18, 19, 20, 21, 22, 23, 24, 25, 26, 27, 28, 29, 30, 31, 32, 33, 34, 35, 36, 37, 38, 39, 40, 41, 42, 43, 44, 45, 46, 47, 48, 49, 50, 51, 52, 53, 54, 55, 56, 57, 58, 59, 60, 61, 62, 63, 64] (by decide +kernel) (by decide +kernel)
set_option maxRecDepth 20000 in
theorem gX12_component_X12_isObject : GoodIn wsX12_component (wsV RX12 145 RX12 yX12_isObject wsX12_isObject) := goodIn_app (goodIn_of _ (by decide +kernel)) ggX12_component_X12_isObject
theorem dX12_component_0 : decode cX12_component 0 = .ok (.aload_n 0, 1) := by decide +kernel
theorem dX12_component_1 : decode cX12_component 1 = .ok (.iload_n 1, 1) := by decide +kernel
theorem dX12_component_2 : decode cX12_component 2 = .ok (.invokevirtual 145, 3) := by decide +kernel
theorem dX12_component_5 : decode cX12_component 5 = .ok (.ifCond .ne 5, 3) := by decide +kernel
theorem dX12_component_8 : decode cX12_component 8 = .ok (.iconst (-1), 1) := by decide +kernel
theorem dX12_component_9 : decode cX12_component 9 = .ok (.ireturn, 1) := by decide +kernel
theorem dX12_component_10 : decode cX12_component 10 = .ok (.iconst 1, 1) := by decide +kernel
theorem dX12_component_11 : decode cX12_component 11 = .ok (.iload_n 1, 1) := by decide +kernel
theorem dX12_component_12 : decode cX12_component 12 = .ok (.ishl, 1) := by decide +kernel
theorem dX12_component_13 : decode cX12_component 13 = .ok (.istore_n 2, 1) := by decide +kernel
theorem dX12_component_14 : decode cX12_component 14 = .ok (.iconst 0, 1) := by decide +kernel
theorem dX12_component_15 : decode cX12_component 15 = .ok (.istore_n 3, 1) := by decide +kernel
theorem dX12_component_16 : decode cX12_component 16 = .ok (.iload_n 3, 1) := by decide +kernel
theorem dX12_component_17 : decode cX12_component 17 = .ok (.aload_n 0, 1) := by decide +kernel
theorem dX12_component_18 : decode cX12_component 18 = .ok (.getfield 132, 3) := by decide +kernel
theorem dX12_component_21 : decode cX12_component 21 = .ok (.if_icmp .ge 95, 3) := by decide +kernel
theorem dX12_component_24 : decode cX12_component 24 = .ok (.iconst 0, 1) := by decide +kernel
theorem dX12_component_25 : decode cX12_component 25 = .ok (.istore 4, 2) := by decide +kernel
theorem dX12_component_27 : decode cX12_component 27 = .ok (.iload 4, 2) := by decide +kernel
theorem dX12_component_29 : decode cX12_component 29 = .ok (.aload_n 0, 1) := by decide +kernel
theorem dX12_component_30 : decode cX12_component 30 = .ok (.getfield 135, 3) := by decide +kernel
theorem dX12_component_33 : decode cX12_component 33 = .ok (.if_icmp .ge 77, 3) := by decide +kernel
theorem dX12_component_36 : decode cX12_component 36 = .ok (.iload_n 2, 1) := by decide +kernel
theorem dX12_component_37 : decode cX12_component 37 = .ok (.aload_n 0, 1) := by decide +kernel
theorem dX12_component_38 : decode cX12_component 38 = .ok (.getfield 17, 3) := by decide +kernel
theorem dX12_component_41 : decode cX12_component 41 = .ok (.iload 4, 2) := by decide +kernel
theorem dX12_component_43 : decode cX12_component 43 = .ok (.iaload, 1) := by decide +kernel
theorem dX12_component_44 : decode cX12_component 44 = .ok (.ishr, 1) := by decide +kernel
theorem dX12_component_45 : decode cX12_component 45 = .ok (.iconst 1, 1) := by decide +kernel
theorem dX12_component_46 : decode cX12_component 46 = .ok (.iand, 1) := by decide +kernel
theorem dX12_component_47 : decode cX12_component 47 = .ok (.iconst 1, 1) := by decide +kernel
theorem dX12_component_48 : decode cX12_component 48 = .ok (.if_icmp .eq 18, 3) := by decide +kernel
theorem dX12_component_51 : decode cX12_component 51 = .ok (.iload_n 2, 1) := by decide +kernel
theorem dX12_component_52 : decode cX12_component 52 = .ok (.aload_n 0, 1) := by decide +kernel
theorem dX12_component_53 : decode cX12_component 53 = .ok (.getfield 21, 3) := by decide +kernel
theorem dX12_component_56 : decode cX12_component 56 = .ok (.iload 4, 2) := by decide +kernel
theorem dX12_component_58 : decode cX12_component 58 = .ok (.iaload, 1) := by decide +kernel
theorem dX12_component_59 : decode cX12_component 59 = .ok (.ishr, 1) := by decide +kernel
theorem dX12_component_60 : decode cX12_component 60 = .ok (.iconst 1, 1) := by decide +kernel
theorem dX12_component_61 : decode cX12_component 61 = .ok (.iand, 1) := by decide +kernel
theorem dX12_component_62 : decode cX12_component 62 = .ok (.iconst 1, 1) := by decide +kernel
theorem dX12_component_63 : decode cX12_component 63 = .ok (.if_icmp .ne 7, 3) := by decide +kernel
theorem dX12_component_66 : decode cX12_component 66 = .ok (.iconst 1, 1) := by decide +kernel
theorem dX12_component_67 : decode cX12_component 67 = .ok (.goto 4, 3) := by decide +kernel
theorem dX12_component_70 : decode cX12_component 70 = .ok (.iconst 0, 1) := by decide +kernel
theorem dX12_component_71 : decode cX12_component 71 = .ok (.istore 5, 2) := by decide +kernel
theorem dX12_component_73 : decode cX12_component 73 = .ok (.iload_n 2, 1) := by decide +kernel
theorem dX12_component_74 : decode cX12_component 74 = .ok (.iload 5, 2) := by decide +kernel
theorem dX12_component_76 : decode cX12_component 76 = .ok (.ifCond .eq 25, 3) := by decide +kernel
theorem dX12_component_79 : decode cX12_component 79 = .ok (.iconst 1, 1) := by decide +kernel
theorem dX12_component_80 : decode cX12_component 80 = .ok (.aload_n 0, 1) := by decide +kernel
theorem dX12_component_81 : decode cX12_component 81 = .ok (.getfield 17, 3) := by decide +kernel
theorem dX12_component_84 : decode cX12_component 84 = .ok (.iload 4, 2) := by decide +kernel
theorem dX12_component_86 : decode cX12_component 86 = .ok (.iaload, 1) := by decide +kernel
theorem dX12_component_87 : decode cX12_component 87 = .ok (.ishl, 1) := by decide +kernel
theorem dX12_component_88 : decode cX12_component 88 = .ok (.iconst 1, 1) := by decide +kernel
theorem dX12_component_89 : decode cX12_component 89 = .ok (.aload_n 0, 1) := by decide +kernel
theorem dX12_component_90 : decode cX12_component 90 = .ok (.getfield 21, 3) := by decide +kernel
theorem dX12_component_93 : decode cX12_component 93 = .ok (.iload 4, 2) := by decide +kernel
theorem dX12_component_95 : decode cX12_component 95 = .ok (.iaload, 1) := by decide +kernel
theorem dX12_component_96 : decode cX12_component 96 = .ok (.ishl, 1) := by decide +kernel
theorem dX12_component_97 : decode cX12_component 97 = .ok (.ior, 1) := by decide +kernel
theorem dX12_component_98 : decode cX12_component 98 = .ok (.goto 4, 3) := by decide +kernel
theorem dX12_component_101 : decode cX12_component 101 = .ok (.iconst 0, 1) := by decide +kernel
theorem dX12_component_102 : decode cX12_component 102 = .ok (.ior, 1) := by decide +kernel
theorem dX12_component_103 : decode cX12_component 103 = .ok (.istore_n 2, 1) := by decide +kernel
theorem dX12_component_104 : decode cX12_component 104 = .ok (.iinc 4 1, 3) := by decide +kernel
theorem dX12_component_107 : decode cX12_component 107 = .ok (.goto (-80), 3) := by decide +kernel
theorem dX12_component_110 : decode cX12_component 110 = .ok (.iinc 3 1, 3) := by decide +kernel
theorem dX12_component_113 : decode cX12_component 113 = .ok (.goto (-97), 3) := by decide +kernel
theorem dX12_component_116 : decode cX12_component 116 = .ok (.iconst 0, 1) := by decide +kernel
theorem dX12_component_117 : decode cX12_component 117 = .ok (.istore_n 3, 1) := by decide +kernel
theorem dX12_component_118 : decode cX12_component 118 = .ok (.iload_n 2, 1) := by decide +kernel
theorem dX12_component_119 : decode cX12_component 119 = .ok (.iload_n 3, 1) := by decide +kernel
theorem dX12_component_120 : decode cX12_component 120 = .ok (.ishr, 1) := by decide +kernel
theorem dX12_component_121 : decode cX12_component 121 = .ok (.iconst 1, 1) := by decide +kernel
theorem dX12_component_122 : decode cX12_component 122 = .ok (.iand, 1) := by decide +kernel
theorem dX12_component_123 : decode cX12_component 123 = .ok (.ifCond .ne 9, 3) := by decide +kernel
theorem dX12_component_126 : decode cX12_component 126 = .ok (.iinc 3 1, 3) := by decide +kernel
theorem dX12_component_129 : decode cX12_component 129 = .ok (.goto (-11), 3) := by decide +kernel
theorem dX12_component_132 : decode cX12_component 132 = .ok (.iload_n 3, 1) := by decide +kernel
theorem dX12_component_133 : decode cX12_component 133 = .ok (.ireturn, 1) := by decide +kernel
theorem dX12_isOnCycle_0 : decode cX12_isOnCycle 0 = .ok (.iconst 0, 1) := by decide +kernel
theorem dX12_isOnCycle_1 : decode cX12_isOnCycle 1 = .ok (.istore_n 2, 1) := by decide +kernel
theorem dX12_isOnCycle_2 : decode cX12_isOnCycle 2 = .ok (.iload_n 2, 1) := by decide +kernel
theorem dX12_isOnCycle_3 : decode cX12_isOnCycle 3 = .ok (.aload_n 0, 1) := by decide +kernel
theorem dX12_isOnCycle_4 : decode cX12_isOnCycle 4 = .ok (.getfield 135, 3) := by decide +kernel
theorem dX12_isOnCycle_7 : decode cX12_isOnCycle 7 = .ok (.if_icmp .ge 40, 3) := by decide +kernel
theorem dX12_isOnCycle_10 : decode cX12_isOnCycle 10 = .ok (.aload_n 0, 1) := by decide +kernel
theorem dX12_isOnCycle_11 : decode cX12_isOnCycle 11 = .ok (.getfield 17, 3) := by decide +kernel
theorem dX12_isOnCycle_14 : decode cX12_isOnCycle 14 = .ok (.iload_n 2, 1) := by decide +kernel
theorem dX12_isOnCycle_15 : decode cX12_isOnCycle 15 = .ok (.iaload, 1) := by decide +kernel
theorem dX12_isOnCycle_16 : decode cX12_isOnCycle 16 = .ok (.iload_n 1, 1) := by decide +kernel
theorem dX12_isOnCycle_17 : decode cX12_isOnCycle 17 = .ok (.if_icmp .ne 24, 3) := by decide +kernel
theorem dX12_isOnCycle_20 : decode cX12_isOnCycle 20 = .ok (.aload_n 0, 1) := by decide +kernel
theorem dX12_isOnCycle_21 : decode cX12_isOnCycle 21 = .ok (.getfield 35, 3) := by decide +kernel
theorem dX12_isOnCycle_24 : decode cX12_isOnCycle 24 = .ok (.aload_n 0, 1) := by decide +kernel
theorem dX12_isOnCycle_25 : decode cX12_isOnCycle 25 = .ok (.getfield 21, 3) := by decide +kernel
theorem dX12_isOnCycle_28 : decode cX12_isOnCycle 28 = .ok (.iload_n 2, 1) := by decide +kernel
theorem dX12_isOnCycle_29 : decode cX12_isOnCycle 29 = .ok (.iaload, 1) := by decide +kernel
theorem dX12_isOnCycle_30 : decode cX12_isOnCycle 30 = .ok (.aaload, 1) := by decide +kernel
theorem dX12_isOnCycle_31 : decode cX12_isOnCycle 31 = .ok (.iload_n 1, 1) := by decide +kernel
theorem dX12_isOnCycle_32 : decode cX12_isOnCycle 32 = .ok (.iaload, 1) := by decide +kernel
theorem dX12_isOnCycle_33 : decode cX12_isOnCycle 33 = .ok (.sipush 1000, 3) := by decide +kernel
theorem dX12_isOnCycle_36 : decode cX12_isOnCycle 36 = .ok (.if_icmp .ge 5, 3) := by decide +kernel
theorem dX12_isOnCycle_39 : decode cX12_isOnCycle 39 = .ok (.iconst 1, 1) := by decide +kernel
theorem dX12_isOnCycle_40 : decode cX12_isOnCycle 40 = .ok (.ireturn, 1) := by decide +kernel
theorem dX12_isOnCycle_41 : decode cX12_isOnCycle 41 = .ok (.iinc 2 1, 3) := by decide +kernel
theorem dX12_isOnCycle_44 : decode cX12_isOnCycle 44 = .ok (.goto (-42), 3) := by decide +kernel
theorem dX12_isOnCycle_47 : decode cX12_isOnCycle 47 = .ok (.iconst 0, 1) := by decide +kernel
theorem dX12_isOnCycle_48 : decode cX12_isOnCycle 48 = .ok (.ireturn, 1) := by decide +kernel
set_option maxRecDepth 20000 in
theorem ggX12_isTerminating_X12_findDistances : GoodIn wsX12_isTerminating wsX12_findDistances := goodIn_r _ [6, 1, 7, 8, 9, 10, 15, 16, 17, 18, 19, 20, 21, 22, 23, 24, 25, 26, 27, 28, 29, 30, 31, 32, 33, 34, 35, 36, 37, 38, 39, 40, 41, 42, 43, 44, 45, 46, 47, 48, 49, 50, 51, 52, 53, 54, 55, 56, 57, 58, 59, 60, 61, 62, 63, 64, 65, 66] (by decide +kernel) (by decide +kernel)
set_option maxRecDepth 20000 in
theorem gX12_isTerminating_X12_findDistances : GoodIn wsX12_isTerminating (wsV RX12 151 RX12 yX12_findDistances wsX12_findDistances) := goodIn_app (goodIn_of _ (by decide +kernel)) ggX12_isTerminating_X12_findDistances
set_option maxRecDepth 20000 in
theorem ggX12_isTerminating_X12_isOnCycle : GoodIn wsX12_isTerminating wsX12_isOnCycle := goodIn_r _ [14, 8, 9, 7, 10, 15, 16, 17, 18, 19, 20, 21, 22, 23, 24, 25, 26, 27, 28, 29, 30, 31, 32, 33, 34, 35, 36, 37, 38, 39, 40, 41, 42, 43, 44, 45, 46, 47, 48, 49, 50, 51, 52, 53, 54, 55, 56, 57, 58, 59, 60, 61, 62, 63, 64, 65, 66] (by decide +kernel) (by decide +kernel)
set_option maxRecDepth 20000 in
theorem gX12_isTerminating_X12_isOnCycle : GoodIn wsX12_isTerminating (wsV RX12 161 RX12 yX12_isOnCycle wsX12_isOnCycle) := goodIn_app (goodIn_of _ (by decide +kernel)) ggX12_isTerminating_X12_isOnCycle
theorem dX12_isTerminating_0 : decode cX12_isTerminating 0 = .ok (.aload_n 0, 1) := by decide +kernel
theorem dX12_isTerminating_1 : decode cX12_isTerminating 1 = .ok (.invokevirtual 151, 3) := by decide +kernel
theorem dX12_isTerminating_4 : decode cX12_isTerminating 4 = .ok (.iconst 0, 1) := by decide +kernel
theorem dX12_isTerminating_5 : decode cX12_isTerminating 5 = .ok (.istore_n 1, 1) := by decide +kernel
theorem dX12_isTerminating_6 : decode cX12_isTerminating 6 = .ok (.iload_n 1, 1) := by decide +kernel
theorem dX12_isTerminating_7 : decode cX12_isTerminating 7 = .ok (.aload_n 0, 1) := by decide +kernel
theorem dX12_isTerminating_8 : decode cX12_isTerminating 8 = .ok (.getfield 132, 3) := by decide +kernel
theorem dX12_isTerminating_11 : decode cX12_isTerminating 11 = .ok (.if_icmp .ge 19, 3) := by decide +kernel
theorem dX12_isTerminating_14 : decode cX12_isTerminating 14 = .ok (.aload_n 0, 1) := by decide +kernel
theorem dX12_isTerminating_15 : decode cX12_isTerminating 15 = .ok (.iload_n 1, 1) := by decide +kernel
theorem dX12_isTerminating_16 : decode cX12_isTerminating 16 = .ok (.invokevirtual 161, 3) := by decide +kernel
theorem dX12_isTerminating_19 : decode cX12_isTerminating 19 = .ok (.ifCond .eq 5, 3) := by decide +kernel
theorem dX12_isTerminating_22 : decode cX12_isTerminating 22 = .ok (.iconst 0, 1) := by decide +kernel
theorem dX12_isTerminating_23 : decode cX12_isTerminating 23 = .ok (.ireturn, 1) := by decide +kernel
theorem dX12_isTerminating_24 : decode cX12_isTerminating 24 = .ok (.iinc 1 1, 3) := by decide +kernel
theorem dX12_isTerminating_27 : decode cX12_isTerminating 27 = .ok (.goto (-21), 3) := by decide +kernel
theorem dX12_isTerminating_30 : decode cX12_isTerminating 30 = .ok (.iconst 1, 1) := by decide +kernel
theorem dX12_isTerminating_31 : decode cX12_isTerminating 31 = .ok (.ireturn, 1) := by decide +kernel
set_option maxRecDepth 20000 in
theorem ggX12_longestPath_X12_isObject : GoodIn wsX12_longestPath wsX12_isObject := goodIn_r _ [11, 1, 12, 13, 10, 14, 23, 24, 25, 26, 27, 28, 29, 30, 31, 32, 33, 34, 35, 36, 37, 38, 39, 40, 41, 42, 43, 44, 45, 46, 47, 48, 49, 50, 51, 52, 53, 54, 55, 56, 57, 58, 59, 60, 61, 62, 63, 64, 65, 66, 67, 68, 69, 70, 71, 72, 73, 74] (by decide +kernel) (by decide +kernel)
set_option maxRecDepth 20000 in
theorem gX12_longestPath_X12_isObject : GoodIn wsX12_longestPath (wsV RX12 145 RX12 yX12_isObject wsX12_isObject) := goodIn_app (goodIn_of _ (by decide +kernel)) ggX12_longestPath_X12_isObject
set_option maxRecDepth 20000 in
theorem ggX12_longestPath_X12_findDistances : GoodIn wsX12_longestPath wsX12_findDistances := goodIn_r _ [18, 1, 2, 4, 5, 6, 23, 24, 25, 26, 27, 28, 29, 30, 31, 32, 33, 34, 35, 36, 37, 38, 39, 40, 41, 42, 43, 44, 45, 46, 47, 48, 49, 50, 51, 52, 53, 54, 55, 56, 57, 58, 59, 60, 61, 62, 63, 64, 65, 66, 67, 68, 69, 70, 71, 72, 73, 74] (by decide +kernel) (by decide +kernel)
set_option maxRecDepth 20000 in
theorem gX12_longestPath_X12_findDistances : GoodIn wsX12_longestPath (wsV RX12 151 RX12 yX12_findDistances wsX12_findDistances) := goodIn_app (goodIn_of _ (by decide +kernel)) ggX12_longestPath_X12_findDistances
set_option maxRecDepth 20000 in
theorem ggX12_longestPath_X12_isOnCycle : GoodIn wsX12_longestPath wsX12_isOnCycle := goodIn_r _ [22, 4, 5, 2, 6, 23, 24, 25, 26, 27, 28, 29, 30, 31, 32, 33, 34, 35, 36, 37, 38, 39, 40, 41, 42, 43, 44, 45, 46, 47, 48, 49, 50, 51, 52, 53, 54, 55, 56, 57, 58, 59, 60, 61, 62, 63, 64, 65, 66, 67, 68, 69, 70, 71, 72, 73, 74] (by decide +kernel) (by decide +kernel)
set_option maxRecDepth 20000 in
theorem gX12_longestPath_X12_isOnCycle : GoodIn wsX12_longestPath (wsV RX12 161 RX12 yX12_isOnCycle wsX12_isOnCycle) := goodIn_app (goodIn_of _ (by decide +kernel)) ggX12_longestPath_X12_isOnCycle
theorem dX12_longestPath_0 : decode cX12_longestPath 0 = .ok (.aload_n 0, 1) := by decide +kernel
theorem dX12_longestPath_1 : decode cX12_longestPath 1 = .ok (.iload_n 1, 1) := by decide +kernel
theorem dX12_longestPath_2 : decode cX12_longestPath 2 = .ok (.invokevirtual 145, 3) := by decide +kernel
theorem dX12_longestPath_5 : decode cX12_longestPath 5 = .ok (.ifCond .ne 5, 3) := by decide +kernel
theorem dX12_longestPath_8 : decode cX12_longestPath 8 = .ok (.iconst (-1), 1) := by decide +kernel
theorem dX12_longestPath_9 : decode cX12_longestPath 9 = .ok (.ireturn, 1) := by decide +kernel
theorem dX12_longestPath_10 : decode cX12_longestPath 10 = .ok (.aload_n 0, 1) := by decide +kernel
theorem dX12_longestPath_11 : decode cX12_longestPath 11 = .ok (.invokevirtual 151, 3) := by decide +kernel
theorem dX12_longestPath_14 : decode cX12_longestPath 14 = .ok (.iconst 0, 1) := by decide +kernel
theorem dX12_longestPath_15 : decode cX12_longestPath 15 = .ok (.istore_n 2, 1) := by decide +kernel
theorem dX12_longestPath_16 : decode cX12_longestPath 16 = .ok (.iload_n 2, 1) := by decide +kernel
theorem dX12_longestPath_17 : decode cX12_longestPath 17 = .ok (.aload_n 0, 1) := by decide +kernel
theorem dX12_longestPath_18 : decode cX12_longestPath 18 = .ok (.getfield 132, 3) := by decide +kernel
theorem dX12_longestPath_21 : decode cX12_longestPath 21 = .ok (.if_icmp .ge 41, 3) := by decide +kernel
theorem dX12_longestPath_24 : decode cX12_longestPath 24 = .ok (.aload_n 0, 1) := by decide +kernel
theorem dX12_longestPath_25 : decode cX12_longestPath 25 = .ok (.getfield 35, 3) := by decide +kernel
theorem dX12_longestPath_28 : decode cX12_longestPath 28 = .ok (.iload_n 1, 1) := by decide +kernel
theorem dX12_longestPath_29 : decode cX12_longestPath 29 = .ok (.aaload, 1) := by decide +kernel
theorem dX12_longestPath_30 : decode cX12_longestPath 30 = .ok (.iload_n 2, 1) := by decide +kernel
theorem dX12_longestPath_31 : decode cX12_longestPath 31 = .ok (.iaload, 1) := by decide +kernel
theorem dX12_longestPath_32 : decode cX12_longestPath 32 = .ok (.sipush 1000, 3) := by decide +kernel
theorem dX12_longestPath_35 : decode cX12_longestPath 35 = .ok (.if_icmp .ge 14, 3) := by decide +kernel
theorem dX12_longestPath_38 : decode cX12_longestPath 38 = .ok (.aload_n 0, 1) := by decide +kernel
theorem dX12_longestPath_39 : decode cX12_longestPath 39 = .ok (.iload_n 2, 1) := by decide +kernel
theorem dX12_longestPath_40 : decode cX12_longestPath 40 = .ok (.invokevirtual 161, 3) := by decide +kernel
theorem dX12_longestPath_43 : decode cX12_longestPath 43 = .ok (.ifCond .eq 6, 3) := by decide +kernel
theorem dX12_longestPath_46 : decode cX12_longestPath 46 = .ok (.bipush (-2), 2) := by decide +kernel
theorem dX12_longestPath_48 : decode cX12_longestPath 48 = .ok (.ireturn, 1) := by decide +kernel
theorem dX12_longestPath_49 : decode cX12_longestPath 49 = .ok (.aload_n 0, 1) := by decide +kernel
theorem dX12_longestPath_50 : decode cX12_longestPath 50 = .ok (.getfield 38, 3) := by decide +kernel
theorem dX12_longestPath_53 : decode cX12_longestPath 53 = .ok (.iload_n 2, 1) := by decide +kernel
theorem dX12_longestPath_54 : decode cX12_longestPath 54 = .ok (.iconst 0, 1) := by decide +kernel
theorem dX12_longestPath_55 : decode cX12_longestPath 55 = .ok (.iastore, 1) := by decide +kernel
theorem dX12_longestPath_56 : decode cX12_longestPath 56 = .ok (.iinc 2 1, 3) := by decide +kernel
theorem dX12_longestPath_59 : decode cX12_longestPath 59 = .ok (.goto (-43), 3) := by decide +kernel
theorem dX12_longestPath_62 : decode cX12_longestPath 62 = .ok (.iconst 0, 1) := by decide +kernel
theorem dX12_longestPath_63 : decode cX12_longestPath 63 = .ok (.istore_n 2, 1) := by decide +kernel
theorem dX12_longestPath_64 : decode cX12_longestPath 64 = .ok (.iload_n 2, 1) := by decide +kernel
theorem dX12_longestPath_65 : decode cX12_longestPath 65 = .ok (.aload_n 0, 1) := by decide +kernel
theorem dX12_longestPath_66 : decode cX12_longestPath 66 = .ok (.getfield 132, 3) := by decide +kernel
theorem dX12_longestPath_69 : decode cX12_longestPath 69 = .ok (.if_icmp .ge 107, 3) := by decide +kernel
theorem dX12_longestPath_72 : decode cX12_longestPath 72 = .ok (.iconst 0, 1) := by decide +kernel
theorem dX12_longestPath_73 : decode cX12_longestPath 73 = .ok (.istore_n 3, 1) := by decide +kernel
theorem dX12_longestPath_74 : decode cX12_longestPath 74 = .ok (.iload_n 3, 1) := by decide +kernel
theorem dX12_longestPath_75 : decode cX12_longestPath 75 = .ok (.aload_n 0, 1) := by decide +kernel
theorem dX12_longestPath_76 : decode cX12_longestPath 76 = .ok (.getfield 135, 3) := by decide +kernel
theorem dX12_longestPath_79 : decode cX12_longestPath 79 = .ok (.if_icmp .ge 91, 3) := by decide +kernel
theorem dX12_longestPath_82 : decode cX12_longestPath 82 = .ok (.aload_n 0, 1) := by decide +kernel
theorem dX12_longestPath_83 : decode cX12_longestPath 83 = .ok (.getfield 35, 3) := by decide +kernel
theorem dX12_longestPath_86 : decode cX12_longestPath 86 = .ok (.iload_n 1, 1) := by decide +kernel
theorem dX12_longestPath_87 : decode cX12_longestPath 87 = .ok (.aaload, 1) := by decide +kernel
theorem dX12_longestPath_88 : decode cX12_longestPath 88 = .ok (.aload_n 0, 1) := by decide +kernel
theorem dX12_longestPath_89 : decode cX12_longestPath 89 = .ok (.getfield 17, 3) := by decide +kernel
theorem dX12_longestPath_92 : decode cX12_longestPath 92 = .ok (.iload_n 3, 1) := by decide +kernel
theorem dX12_longestPath_93 : decode cX12_longestPath 93 = .ok (.iaload, 1) := by decide +kernel
theorem dX12_longestPath_94 : decode cX12_longestPath 94 = .ok (.iaload, 1) := by decide +kernel
theorem dX12_longestPath_95 : decode cX12_longestPath 95 = .ok (.sipush 1000, 3) := by decide +kernel
theorem dX12_longestPath_98 : decode cX12_longestPath 98 = .ok (.if_icmp .ge 7, 3) := by decide +kernel
theorem dX12_longestPath_101 : decode cX12_longestPath 101 = .ok (.iconst 1, 1) := by decide +kernel
theorem dX12_longestPath_102 : decode cX12_longestPath 102 = .ok (.goto 4, 3) := by decide +kernel
theorem dX12_longestPath_105 : decode cX12_longestPath 105 = .ok (.iconst 0, 1) := by decide +kernel
theorem dX12_longestPath_106 : decode cX12_longestPath 106 = .ok (.istore 4, 2) := by decide +kernel
theorem dX12_longestPath_108 : decode cX12_longestPath 108 = .ok (.iload 4, 2) := by decide +kernel
theorem dX12_longestPath_110 : decode cX12_longestPath 110 = .ok (.ifCond .eq 54, 3) := by decide +kernel
theorem dX12_longestPath_113 : decode cX12_longestPath 113 = .ok (.aload_n 0, 1) := by decide +kernel
theorem dX12_longestPath_114 : decode cX12_longestPath 114 = .ok (.getfield 38, 3) := by decide +kernel
