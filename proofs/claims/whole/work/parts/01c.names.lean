theorem dX1_clear_2 : decode cX1_clear 2 = .ok (.putfield 9, 3) := by decide +kernel
theorem dX1_clear_5 : decode cX1_clear 5 = .ok (.return_, 1) := by decide +kernel
theorem dX1_append_0 : decode cX1_append 0 = .ok (.aload_n 0, 1) := by decide +kernel
theorem dX1_append_1 : decode cX1_append 1 = .ok (.getfield 9, 3) := by decide +kernel
theorem dX1_append_4 : decode cX1_append 4 = .ok (.bipush 20, 2) := by decide +kernel
theorem dX1_append_6 : decode cX1_append 6 = .ok (.if_icmp .ge 23, 3) := by decide +kernel
theorem dX1_append_9 : decode cX1_append 9 = .ok (.aload_n 0, 1) := by decide +kernel
theorem dX1_append_10 : decode cX1_append 10 = .ok (.getfield 15, 3) := by decide +kernel
theorem dX1_append_13 : decode cX1_append 13 = .ok (.aload_n 0, 1) := by decide +kernel
theorem dX1_append_14 : decode cX1_append 14 = .ok (.getfield 9, 3) := by decide +kernel
theorem dX1_append_17 : decode cX1_append 17 = .ok (.iload_n 1, 1) := by decide +kernel
theorem dX1_append_18 : decode cX1_append 18 = .ok (.iastore, 1) := by decide +kernel
theorem dX1_append_19 : decode cX1_append 19 = .ok (.aload_n 0, 1) := by decide +kernel
theorem dX1_append_20 : decode cX1_append 20 = .ok (.dup, 1) := by decide +kernel
theorem dX1_append_21 : decode cX1_append 21 = .ok (.getfield 9, 3) := by decide +kernel
theorem dX1_append_24 : decode cX1_append 24 = .ok (.iconst 1, 1) := by decide +kernel
theorem dX1_append_25 : decode cX1_append 25 = .ok (.iadd, 1) := by decide +kernel
theorem dX1_append_26 : decode cX1_append 26 = .ok (.putfield 9, 3) := by decide +kernel
theorem dX1_append_29 : decode cX1_append 29 = .ok (.return_, 1) := by decide +kernel
theorem dX1_byteAt_0 : decode cX1_byteAt 0 = .ok (.iload_n 1, 1) := by decide +kernel
theorem dX1_byteAt_1 : decode cX1_byteAt 1 = .ok (.ifCond .lt 20, 3) := by decide +kernel
theorem dX1_byteAt_4 : decode cX1_byteAt 4 = .ok (.iload_n 1, 1) := by decide +kernel
theorem dX1_byteAt_5 : decode cX1_byteAt 5 = .ok (.aload_n 0, 1) := by decide +kernel
theorem dX1_byteAt_6 : decode cX1_byteAt 6 = .ok (.getfield 9, 3) := by decide +kernel
theorem dX1_byteAt_9 : decode cX1_byteAt 9 = .ok (.if_icmp .ge 12, 3) := by decide +kernel
theorem dX1_byteAt_12 : decode cX1_byteAt 12 = .ok (.aload_n 0, 1) := by decide +kernel
theorem dX1_byteAt_13 : decode cX1_byteAt 13 = .ok (.getfield 15, 3) := by decide +kernel
theorem dX1_byteAt_16 : decode cX1_byteAt 16 = .ok (.iload_n 1, 1) := by decide +kernel
theorem dX1_byteAt_17 : decode cX1_byteAt 17 = .ok (.iaload, 1) := by decide +kernel
theorem dX1_byteAt_18 : decode cX1_byteAt 18 = .ok (.goto 4, 3) := by decide +kernel
theorem dX1_byteAt_21 : decode cX1_byteAt 21 = .ok (.iconst 0, 1) := by decide +kernel
theorem dX1_byteAt_22 : decode cX1_byteAt 22 = .ok (.ireturn, 1) := by decide +kernel
set_option maxRecDepth 20000 in
theorem ggX1_wordAt_X1_byteAt : GoodIn wsX1_wordAt wsX1_byteAt := goodIn_r _ [5, 6, 7, 11, 12] (by decide +kernel) (by decide +kernel)
set_option maxRecDepth 20000 in
theorem gX1_wordAt_X1_byteAt : GoodIn wsX1_wordAt (wsV RX1 19 RX1 yX1_byteAt wsX1_byteAt) := goodIn_app (goodIn_of _ (by decide +kernel)) ggX1_wordAt_X1_byteAt
set_option maxRecDepth 20000 in
theorem ggX1_wordAt_X10_append : GoodIn wsX1_wordAt wsX10_append := goodIn_r _ [10] (by decide +kernel) (by decide +kernel)
set_option maxRecDepth 20000 in
theorem gX1_wordAt_X10_append_n23 : GoodIn wsX1_wordAt (wsX10_append) := ggX1_wordAt_X10_append
theorem dX1_wordAt_0 : decode cX1_wordAt 0 = .ok (.iconst 0, 1) := by decide +kernel
theorem dX1_wordAt_1 : decode cX1_wordAt 1 = .ok (.istore_n 3, 1) := by decide +kernel
theorem dX1_wordAt_2 : decode cX1_wordAt 2 = .ok (.iconst 0, 1) := by decide +kernel
theorem dX1_wordAt_3 : decode cX1_wordAt 3 = .ok (.istore 4, 2) := by decide +kernel
theorem dX1_wordAt_5 : decode cX1_wordAt 5 = .ok (.iload 4, 2) := by decide +kernel
theorem dX1_wordAt_7 : decode cX1_wordAt 7 = .ok (.iload_n 2, 1) := by decide +kernel
theorem dX1_wordAt_8 : decode cX1_wordAt 8 = .ok (.if_icmp .ge 44, 3) := by decide +kernel
theorem dX1_wordAt_11 : decode cX1_wordAt 11 = .ok (.aload_n 0, 1) := by decide +kernel
theorem dX1_wordAt_12 : decode cX1_wordAt 12 = .ok (.iload_n 1, 1) := by decide +kernel
theorem dX1_wordAt_13 : decode cX1_wordAt 13 = .ok (.iload 4, 2) := by decide +kernel
theorem dX1_wordAt_15 : decode cX1_wordAt 15 = .ok (.iadd, 1) := by decide +kernel
theorem dX1_wordAt_16 : decode cX1_wordAt 16 = .ok (.invokevirtual 19, 3) := by decide +kernel
theorem dX1_wordAt_19 : decode cX1_wordAt 19 = .ok (.istore 5, 2) := by decide +kernel
theorem dX1_wordAt_21 : decode cX1_wordAt 21 = .ok (.iload 5, 2) := by decide +kernel
theorem dX1_wordAt_23 : decode cX1_wordAt 23 = .ok (.bipush 97, 2) := by decide +kernel
theorem dX1_wordAt_25 : decode cX1_wordAt 25 = .ok (.if_icmp .lt 10, 3) := by decide +kernel
theorem dX1_wordAt_28 : decode cX1_wordAt 28 = .ok (.iload 5, 2) := by decide +kernel
theorem dX1_wordAt_30 : decode cX1_wordAt 30 = .ok (.bipush 99, 2) := by decide +kernel
theorem dX1_wordAt_32 : decode cX1_wordAt 32 = .ok (.if_icmp .le 5, 3) := by decide +kernel
theorem dX1_wordAt_35 : decode cX1_wordAt 35 = .ok (.iload_n 3, 1) := by decide +kernel
theorem dX1_wordAt_36 : decode cX1_wordAt 36 = .ok (.ireturn, 1) := by decide +kernel
theorem dX1_wordAt_37 : decode cX1_wordAt 37 = .ok (.iload_n 3, 1) := by decide +kernel
theorem dX1_wordAt_38 : decode cX1_wordAt 38 = .ok (.iload 4, 2) := by decide +kernel
theorem dX1_wordAt_40 : decode cX1_wordAt 40 = .ok (.iload 5, 2) := by decide +kernel
theorem dX1_wordAt_42 : decode cX1_wordAt 42 = .ok (.invokestatic 23, 3) := by decide +kernel
theorem dX1_wordAt_45 : decode cX1_wordAt 45 = .ok (.istore_n 3, 1) := by decide +kernel
theorem dX1_wordAt_46 : decode cX1_wordAt 46 = .ok (.iinc 4 1, 3) := by decide +kernel
theorem dX1_wordAt_49 : decode cX1_wordAt 49 = .ok (.goto (-44), 3) := by decide +kernel
theorem dX1_wordAt_52 : decode cX1_wordAt 52 = .ok (.iload_n 3, 1) := by decide +kernel
theorem dX1_wordAt_53 : decode cX1_wordAt 53 = .ok (.ireturn, 1) := by decide +kernel
theorem dX2_init_0 : decode cX2_init 0 = .ok (.aload_n 0, 1) := by decide +kernel
theorem dX2_init_1 : decode cX2_init 1 = .ok (.invokespecial 3, 3) := by decide +kernel
theorem dX2_init_4 : decode cX2_init 4 = .ok (.aload_n 0, 1) := by decide +kernel
theorem dX2_init_5 : decode cX2_init 5 = .ok (.bipush 8, 2) := by decide +kernel
theorem dX2_init_7 : decode cX2_init 7 = .ok (.newarray .int, 2) := by decide +kernel
theorem dX2_init_9 : decode cX2_init 9 = .ok (.putfield 9, 3) := by decide +kernel
theorem dX2_init_12 : decode cX2_init 12 = .ok (.aload_n 0, 1) := by decide +kernel
theorem dX2_init_13 : decode cX2_init 13 = .ok (.bipush 8, 2) := by decide +kernel
theorem dX2_init_15 : decode cX2_init 15 = .ok (.newarray .int, 2) := by decide +kernel
theorem dX2_init_17 : decode cX2_init 17 = .ok (.putfield 15, 3) := by decide +kernel
theorem dX2_init_20 : decode cX2_init 20 = .ok (.return_, 1) := by decide +kernel
set_option maxRecDepth 20000 in
theorem ggX2_hasPair_X11_isIn : GoodIn wsX2_hasPair wsX11_isIn := goodIn_r _ [4] (by decide +kernel) (by decide +kernel)
set_option maxRecDepth 20000 in
theorem gX2_hasPair_X11_isIn_n18 : GoodIn wsX2_hasPair (wsX11_isIn) := ggX2_hasPair_X11_isIn
theorem dX2_hasPair_0 : decode cX2_hasPair 0 = .ok (.aload_n 0, 1) := by decide +kernel
theorem dX2_hasPair_1 : decode cX2_hasPair 1 = .ok (.getfield 9, 3) := by decide +kernel
theorem dX2_hasPair_4 : decode cX2_hasPair 4 = .ok (.iload_n 1, 1) := by decide +kernel
theorem dX2_hasPair_5 : decode cX2_hasPair 5 = .ok (.iaload, 1) := by decide +kernel
theorem dX2_hasPair_6 : decode cX2_hasPair 6 = .ok (.iload_n 2, 1) := by decide +kernel
theorem dX2_hasPair_7 : decode cX2_hasPair 7 = .ok (.invokestatic 18, 3) := by decide +kernel
theorem dX2_hasPair_10 : decode cX2_hasPair 10 = .ok (.ireturn, 1) := by decide +kernel
set_option maxRecDepth 20000 in
theorem ggX2_isAbove_X11_isIn : GoodIn wsX2_isAbove wsX11_isIn := goodIn_r _ [4] (by decide +kernel) (by decide +kernel)
set_option maxRecDepth 20000 in
theorem gX2_isAbove_X11_isIn_n18 : GoodIn wsX2_isAbove (wsX11_isIn) := ggX2_isAbove_X11_isIn
theorem dX2_isAbove_0 : decode cX2_isAbove 0 = .ok (.aload_n 0, 1) := by decide +kernel
theorem dX2_isAbove_1 : decode cX2_isAbove 1 = .ok (.getfield 15, 3) := by decide +kernel
theorem dX2_isAbove_4 : decode cX2_isAbove 4 = .ok (.iload_n 1, 1) := by decide +kernel
theorem dX2_isAbove_5 : decode cX2_isAbove 5 = .ok (.iaload, 1) := by decide +kernel
theorem dX2_isAbove_6 : decode cX2_isAbove 6 = .ok (.iload_n 2, 1) := by decide +kernel
theorem dX2_isAbove_7 : decode cX2_isAbove 7 = .ok (.invokestatic 18, 3) := by decide +kernel
theorem dX2_isAbove_10 : decode cX2_isAbove 10 = .ok (.ireturn, 1) := by decide +kernel
set_option maxRecDepth 20000 in
theorem ggX2_put_X2_close : GoodIn wsX2_put wsX2_close := goodIn_r _ [6, 1, 7, 8, 9, 10, 11, 12, 13, 14, 15, 16] (by decide +kernel) (by decide +kernel)
set_option maxRecDepth 20000 in
theorem gX2_put_X2_close : GoodIn wsX2_put (wsV RX2 22 RX2 yX2_close wsX2_close) := goodIn_app (goodIn_of _ (by decide +kernel)) ggX2_put_X2_close
theorem dX2_put_0 : decode cX2_put 0 = .ok (.aload_n 0, 1) := by decide +kernel
theorem dX2_put_1 : decode cX2_put 1 = .ok (.getfield 9, 3) := by decide +kernel
theorem dX2_put_4 : decode cX2_put 4 = .ok (.iload_n 1, 1) := by decide +kernel
theorem dX2_put_5 : decode cX2_put 5 = .ok (.dup2, 1) := by decide +kernel
theorem dX2_put_6 : decode cX2_put 6 = .ok (.iaload, 1) := by decide +kernel
theorem dX2_put_7 : decode cX2_put 7 = .ok (.iconst 1, 1) := by decide +kernel
theorem dX2_put_8 : decode cX2_put 8 = .ok (.iload_n 2, 1) := by decide +kernel
theorem dX2_put_9 : decode cX2_put 9 = .ok (.ishl, 1) := by decide +kernel
theorem dX2_put_10 : decode cX2_put 10 = .ok (.ior, 1) := by decide +kernel
theorem dX2_put_11 : decode cX2_put 11 = .ok (.iastore, 1) := by decide +kernel
theorem dX2_put_12 : decode cX2_put 12 = .ok (.aload_n 0, 1) := by decide +kernel
theorem dX2_put_13 : decode cX2_put 13 = .ok (.invokevirtual 22, 3) := by decide +kernel
theorem dX2_put_16 : decode cX2_put 16 = .ok (.return_, 1) := by decide +kernel
set_option maxRecDepth 20000 in
theorem ggX2_drop_X2_close : GoodIn wsX2_drop wsX2_close := goodIn_r _ [6, 1, 7, 8, 9, 10, 11, 12, 13, 14, 15, 16] (by decide +kernel) (by decide +kernel)
set_option maxRecDepth 20000 in
theorem gX2_drop_X2_close : GoodIn wsX2_drop (wsV RX2 22 RX2 yX2_close wsX2_close) := goodIn_app (goodIn_of _ (by decide +kernel)) ggX2_drop_X2_close
theorem dX2_drop_0 : decode cX2_drop 0 = .ok (.aload_n 0, 1) := by decide +kernel
theorem dX2_drop_1 : decode cX2_drop 1 = .ok (.getfield 9, 3) := by decide +kernel
theorem dX2_drop_4 : decode cX2_drop 4 = .ok (.iload_n 1, 1) := by decide +kernel
theorem dX2_drop_5 : decode cX2_drop 5 = .ok (.dup2, 1) := by decide +kernel
theorem dX2_drop_6 : decode cX2_drop 6 = .ok (.iaload, 1) := by decide +kernel
theorem dX2_drop_7 : decode cX2_drop 7 = .ok (.iconst 1, 1) := by decide +kernel
theorem dX2_drop_8 : decode cX2_drop 8 = .ok (.iload_n 2, 1) := by decide +kernel
theorem dX2_drop_9 : decode cX2_drop 9 = .ok (.ishl, 1) := by decide +kernel
theorem dX2_drop_10 : decode cX2_drop 10 = .ok (.iconst (-1), 1) := by decide +kernel
theorem dX2_drop_11 : decode cX2_drop 11 = .ok (.ixor, 1) := by decide +kernel
theorem dX2_drop_12 : decode cX2_drop 12 = .ok (.iand, 1) := by decide +kernel
theorem dX2_drop_13 : decode cX2_drop 13 = .ok (.iastore, 1) := by decide +kernel
theorem dX2_drop_14 : decode cX2_drop 14 = .ok (.aload_n 0, 1) := by decide +kernel
theorem dX2_drop_15 : decode cX2_drop 15 = .ok (.invokevirtual 22, 3) := by decide +kernel
theorem dX2_drop_18 : decode cX2_drop 18 = .ok (.return_, 1) := by decide +kernel
set_option maxRecDepth 20000 in
theorem ggX2_size_J6_bitCount_0f7a4 : GoodIn wsX2_size wsJ6_bitCount_0f7a4 := goodIn_r _ [5, 6, 7, 8] (by decide +kernel) (by decide +kernel)
set_option maxRecDepth 20000 in
theorem gX2_size_J6_bitCount_0f7a4 : GoodIn wsX2_size (va_wsS RX2 25 yJ6_bitCount_0f7a4 wsJ6_bitCount_0f7a4) := goodIn_app (goodIn_of _ (by decide +kernel)) ggX2_size_J6_bitCount_0f7a4
theorem dX2_size_0 : decode cX2_size 0 = .ok (.iconst 0, 1) := by decide +kernel
theorem dX2_size_1 : decode cX2_size 1 = .ok (.istore_n 1, 1) := by decide +kernel
theorem dX2_size_2 : decode cX2_size 2 = .ok (.iconst 0, 1) := by decide +kernel
theorem dX2_size_3 : decode cX2_size 3 = .ok (.istore_n 2, 1) := by decide +kernel
theorem dX2_size_4 : decode cX2_size 4 = .ok (.iload_n 2, 1) := by decide +kernel
theorem dX2_size_5 : decode cX2_size 5 = .ok (.bipush 8, 2) := by decide +kernel
theorem dX2_size_7 : decode cX2_size 7 = .ok (.if_icmp .ge 21, 3) := by decide +kernel
theorem dX2_size_10 : decode cX2_size 10 = .ok (.iload_n 1, 1) := by decide +kernel
theorem dX2_size_11 : decode cX2_size 11 = .ok (.aload_n 0, 1) := by decide +kernel
theorem dX2_size_12 : decode cX2_size 12 = .ok (.getfield 9, 3) := by decide +kernel
theorem dX2_size_15 : decode cX2_size 15 = .ok (.iload_n 2, 1) := by decide +kernel
theorem dX2_size_16 : decode cX2_size 16 = .ok (.iaload, 1) := by decide +kernel
theorem dX2_size_17 : decode cX2_size 17 = .ok (.invokestatic 25, 3) := by decide +kernel
theorem dX2_size_20 : decode cX2_size 20 = .ok (.iadd, 1) := by decide +kernel
theorem dX2_size_21 : decode cX2_size 21 = .ok (.istore_n 1, 1) := by decide +kernel
theorem dX2_size_22 : decode cX2_size 22 = .ok (.iinc 2 1, 3) := by decide +kernel
theorem dX2_size_25 : decode cX2_size 25 = .ok (.goto (-21), 3) := by decide +kernel
theorem dX2_size_28 : decode cX2_size 28 = .ok (.iload_n 1, 1) := by decide +kernel
theorem dX2_size_29 : decode cX2_size 29 = .ok (.ireturn, 1) := by decide +kernel
theorem dX2_makeNatural_0 : decode cX2_makeNatural 0 = .ok (.iconst 0, 1) := by decide +kernel
theorem dX2_makeNatural_1 : decode cX2_makeNatural 1 = .ok (.istore_n 1, 1) := by decide +kernel
theorem dX2_makeNatural_2 : decode cX2_makeNatural 2 = .ok (.iload_n 1, 1) := by decide +kernel
theorem dX2_makeNatural_3 : decode cX2_makeNatural 3 = .ok (.bipush 8, 2) := by decide +kernel
theorem dX2_makeNatural_5 : decode cX2_makeNatural 5 = .ok (.if_icmp .ge 32, 3) := by decide +kernel
theorem dX2_makeNatural_8 : decode cX2_makeNatural 8 = .ok (.aload_n 0, 1) := by decide +kernel
theorem dX2_makeNatural_9 : decode cX2_makeNatural 9 = .ok (.getfield 9, 3) := by decide +kernel
theorem dX2_makeNatural_12 : decode cX2_makeNatural 12 = .ok (.iload_n 1, 1) := by decide +kernel
theorem dX2_makeNatural_13 : decode cX2_makeNatural 13 = .ok (.iconst 1, 1) := by decide +kernel
theorem dX2_makeNatural_14 : decode cX2_makeNatural 14 = .ok (.iload_n 1, 1) := by decide +kernel
theorem dX2_makeNatural_15 : decode cX2_makeNatural 15 = .ok (.ishl, 1) := by decide +kernel
theorem dX2_makeNatural_16 : decode cX2_makeNatural 16 = .ok (.iconst 1, 1) := by decide +kernel
theorem dX2_makeNatural_17 : decode cX2_makeNatural 17 = .ok (.isub, 1) := by decide +kernel
theorem dX2_makeNatural_18 : decode cX2_makeNatural 18 = .ok (.iastore, 1) := by decide +kernel
theorem dX2_makeNatural_19 : decode cX2_makeNatural 19 = .ok (.aload_n 0, 1) := by decide +kernel
theorem dX2_makeNatural_20 : decode cX2_makeNatural 20 = .ok (.getfield 15, 3) := by decide +kernel
theorem dX2_makeNatural_23 : decode cX2_makeNatural 23 = .ok (.iload_n 1, 1) := by decide +kernel
theorem dX2_makeNatural_24 : decode cX2_makeNatural 24 = .ok (.aload_n 0, 1) := by decide +kernel
theorem dX2_makeNatural_25 : decode cX2_makeNatural 25 = .ok (.getfield 9, 3) := by decide +kernel
theorem dX2_makeNatural_28 : decode cX2_makeNatural 28 = .ok (.iload_n 1, 1) := by decide +kernel
theorem dX2_makeNatural_29 : decode cX2_makeNatural 29 = .ok (.iaload, 1) := by decide +kernel
theorem dX2_makeNatural_30 : decode cX2_makeNatural 30 = .ok (.iastore, 1) := by decide +kernel
theorem dX2_makeNatural_31 : decode cX2_makeNatural 31 = .ok (.iinc 1 1, 3) := by decide +kernel
theorem dX2_makeNatural_34 : decode cX2_makeNatural 34 = .ok (.goto (-32), 3) := by decide +kernel
theorem dX2_makeNatural_37 : decode cX2_makeNatural 37 = .ok (.return_, 1) := by decide +kernel
theorem dX2_copyFrom_0 : decode cX2_copyFrom 0 = .ok (.aload_n 1, 1) := by decide +kernel
theorem dX2_copyFrom_1 : decode cX2_copyFrom 1 = .ok (.getfield 9, 3) := by decide +kernel
theorem dX2_copyFrom_4 : decode cX2_copyFrom 4 = .ok (.iconst 0, 1) := by decide +kernel
theorem dX2_copyFrom_5 : decode cX2_copyFrom 5 = .ok (.aload_n 0, 1) := by decide +kernel
theorem dX2_copyFrom_6 : decode cX2_copyFrom 6 = .ok (.getfield 9, 3) := by decide +kernel
theorem dX2_copyFrom_9 : decode cX2_copyFrom 9 = .ok (.iconst 0, 1) := by decide +kernel
theorem dX2_copyFrom_10 : decode cX2_copyFrom 10 = .ok (.bipush 8, 2) := by decide +kernel
theorem dX2_copyFrom_12 : decode cX2_copyFrom 12 = .ok (.invokestatic 31, 3) := by decide +kernel
theorem dX2_copyFrom_15 : decode cX2_copyFrom 15 = .ok (.aload_n 1, 1) := by decide +kernel
theorem dX2_copyFrom_16 : decode cX2_copyFrom 16 = .ok (.getfield 15, 3) := by decide +kernel
theorem dX2_copyFrom_19 : decode cX2_copyFrom 19 = .ok (.iconst 0, 1) := by decide +kernel
theorem dX2_copyFrom_20 : decode cX2_copyFrom 20 = .ok (.aload_n 0, 1) := by decide +kernel
theorem dX2_copyFrom_21 : decode cX2_copyFrom 21 = .ok (.getfield 15, 3) := by decide +kernel
theorem dX2_copyFrom_24 : decode cX2_copyFrom 24 = .ok (.iconst 0, 1) := by decide +kernel
theorem dX2_copyFrom_25 : decode cX2_copyFrom 25 = .ok (.bipush 8, 2) := by decide +kernel
theorem dX2_copyFrom_27 : decode cX2_copyFrom 27 = .ok (.invokestatic 31, 3) := by decide +kernel
theorem dX2_copyFrom_30 : decode cX2_copyFrom 30 = .ok (.return_, 1) := by decide +kernel
set_option maxRecDepth 20000 in
theorem ggX2_close_X11_isIn : GoodIn wsX2_close wsX11_isIn := goodIn_r _ [9] (by decide +kernel) (by decide +kernel)
set_option maxRecDepth 20000 in
theorem gX2_close_X11_isIn_n18 : GoodIn wsX2_close (wsX11_isIn) := ggX2_close_X11_isIn
theorem dX2_close_0 : decode cX2_close 0 = .ok (.aload_n 0, 1) := by decide +kernel
theorem dX2_close_1 : decode cX2_close 1 = .ok (.getfield 9, 3) := by decide +kernel
theorem dX2_close_4 : decode cX2_close 4 = .ok (.iconst 0, 1) := by decide +kernel
theorem dX2_close_5 : decode cX2_close 5 = .ok (.aload_n 0, 1) := by decide +kernel
theorem dX2_close_6 : decode cX2_close 6 = .ok (.getfield 15, 3) := by decide +kernel
theorem dX2_close_9 : decode cX2_close 9 = .ok (.iconst 0, 1) := by decide +kernel
theorem dX2_close_10 : decode cX2_close 10 = .ok (.bipush 8, 2) := by decide +kernel
theorem dX2_close_12 : decode cX2_close 12 = .ok (.invokestatic 31, 3) := by decide +kernel
theorem dX2_close_15 : decode cX2_close 15 = .ok (.iconst 0, 1) := by decide +kernel
theorem dX2_close_16 : decode cX2_close 16 = .ok (.istore_n 1, 1) := by decide +kernel
theorem dX2_close_17 : decode cX2_close 17 = .ok (.iload_n 1, 1) := by decide +kernel
theorem dX2_close_18 : decode cX2_close 18 = .ok (.bipush 8, 2) := by decide +kernel
theorem dX2_close_20 : decode cX2_close 20 = .ok (.if_icmp .ge 51, 3) := by decide +kernel
theorem dX2_close_23 : decode cX2_close 23 = .ok (.iconst 0, 1) := by decide +kernel
theorem dX2_close_24 : decode cX2_close 24 = .ok (.istore_n 2, 1) := by decide +kernel
theorem dX2_close_25 : decode cX2_close 25 = .ok (.iload_n 2, 1) := by decide +kernel
theorem dX2_close_26 : decode cX2_close 26 = .ok (.bipush 8, 2) := by decide +kernel
theorem dX2_close_28 : decode cX2_close 28 = .ok (.if_icmp .ge 37, 3) := by decide +kernel
theorem dX2_close_31 : decode cX2_close 31 = .ok (.aload_n 0, 1) := by decide +kernel
theorem dX2_close_32 : decode cX2_close 32 = .ok (.getfield 15, 3) := by decide +kernel
theorem dX2_close_35 : decode cX2_close 35 = .ok (.iload_n 2, 1) := by decide +kernel
theorem dX2_close_36 : decode cX2_close 36 = .ok (.iaload, 1) := by decide +kernel
theorem dX2_close_37 : decode cX2_close 37 = .ok (.iload_n 1, 1) := by decide +kernel
theorem dX2_close_38 : decode cX2_close 38 = .ok (.invokestatic 18, 3) := by decide +kernel
theorem dX2_close_41 : decode cX2_close 41 = .ok (.ifCond .eq 18, 3) := by decide +kernel
theorem dX2_close_44 : decode cX2_close 44 = .ok (.aload_n 0, 1) := by decide +kernel
theorem dX2_close_45 : decode cX2_close 45 = .ok (.getfield 15, 3) := by decide +kernel
theorem dX2_close_48 : decode cX2_close 48 = .ok (.iload_n 2, 1) := by decide +kernel
theorem dX2_close_49 : decode cX2_close 49 = .ok (.dup2, 1) := by decide +kernel
theorem dX2_close_50 : decode cX2_close 50 = .ok (.iaload, 1) := by decide +kernel
theorem dX2_close_51 : decode cX2_close 51 = .ok (.aload_n 0, 1) := by decide +kernel
theorem dX2_close_52 : decode cX2_close 52 = .ok (.getfield 15, 3) := by decide +kernel
theorem dX2_close_55 : decode cX2_close 55 = .ok (.iload_n 1, 1) := by decide +kernel
theorem dX2_close_56 : decode cX2_close 56 = .ok (.iaload, 1) := by decide +kernel
theorem dX2_close_57 : decode cX2_close 57 = .ok (.ior, 1) := by decide +kernel
theorem dX2_close_58 : decode cX2_close 58 = .ok (.iastore, 1) := by decide +kernel
theorem dX2_close_59 : decode cX2_close 59 = .ok (.iinc 2 1, 3) := by decide +kernel
theorem dX2_close_62 : decode cX2_close 62 = .ok (.goto (-37), 3) := by decide +kernel
theorem dX2_close_65 : decode cX2_close 65 = .ok (.iinc 1 1, 3) := by decide +kernel
theorem dX2_close_68 : decode cX2_close 68 = .ok (.goto (-51), 3) := by decide +kernel
theorem dX2_close_71 : decode cX2_close 71 = .ok (.return_, 1) := by decide +kernel
theorem dX3_init_0 : decode cX3_init 0 = .ok (.aload_n 0, 1) := by decide +kernel
theorem dX3_init_1 : decode cX3_init 1 = .ok (.invokespecial 3, 3) := by decide +kernel
theorem dX3_init_4 : decode cX3_init 4 = .ok (.aload_n 0, 1) := by decide +kernel
theorem dX3_init_5 : decode cX3_init 5 = .ok (.iconst 0, 1) := by decide +kernel
theorem dX3_init_6 : decode cX3_init 6 = .ok (.putfield 9, 3) := by decide +kernel
theorem dX3_init_9 : decode cX3_init 9 = .ok (.aload_n 0, 1) := by decide +kernel
theorem dX3_init_10 : decode cX3_init 10 = .ok (.bipush 16, 2) := by decide +kernel
theorem dX3_init_12 : decode cX3_init 12 = .ok (.newarray .int, 2) := by decide +kernel
theorem dX3_init_14 : decode cX3_init 14 = .ok (.putfield 15, 3) := by decide +kernel
theorem dX3_init_17 : decode cX3_init 17 = .ok (.aload_n 0, 1) := by decide +kernel
theorem dX3_init_18 : decode cX3_init 18 = .ok (.iconst 0, 1) := by decide +kernel
theorem dX3_init_19 : decode cX3_init 19 = .ok (.putfield 19, 3) := by decide +kernel
theorem dX3_init_22 : decode cX3_init 22 = .ok (.aload_n 0, 1) := by decide +kernel
theorem dX3_init_23 : decode cX3_init 23 = .ok (.bipush 32, 2) := by decide +kernel
theorem dX3_init_25 : decode cX3_init 25 = .ok (.newarray .int, 2) := by decide +kernel
theorem dX3_init_27 : decode cX3_init 27 = .ok (.putfield 22, 3) := by decide +kernel
theorem dX3_init_30 : decode cX3_init 30 = .ok (.aload_n 0, 1) := by decide +kernel
theorem dX3_init_31 : decode cX3_init 31 = .ok (.bipush 32, 2) := by decide +kernel
theorem dX3_init_33 : decode cX3_init 33 = .ok (.newarray .int, 2) := by decide +kernel
theorem dX3_init_35 : decode cX3_init 35 = .ok (.putfield 25, 3) := by decide +kernel
theorem dX3_init_38 : decode cX3_init 38 = .ok (.aload_n 0, 1) := by decide +kernel
theorem dX3_init_39 : decode cX3_init 39 = .ok (.bipush 32, 2) := by decide +kernel
theorem dX3_init_41 : decode cX3_init 41 = .ok (.newarray .int, 2) := by decide +kernel
theorem dX3_init_43 : decode cX3_init 43 = .ok (.putfield 28, 3) := by decide +kernel
theorem dX3_init_46 : decode cX3_init 46 = .ok (.return_, 1) := by decide +kernel
theorem dX3_hasObject_0 : decode cX3_hasObject 0 = .ok (.iload_n 1, 1) := by decide +kernel
theorem dX3_hasObject_1 : decode cX3_hasObject 1 = .ok (.ifCond .lt 15, 3) := by decide +kernel
theorem dX3_hasObject_4 : decode cX3_hasObject 4 = .ok (.iload_n 1, 1) := by decide +kernel
theorem dX3_hasObject_5 : decode cX3_hasObject 5 = .ok (.aload_n 0, 1) := by decide +kernel
theorem dX3_hasObject_6 : decode cX3_hasObject 6 = .ok (.getfield 9, 3) := by decide +kernel
theorem dX3_hasObject_9 : decode cX3_hasObject 9 = .ok (.if_icmp .ge 7, 3) := by decide +kernel
theorem dX3_hasObject_12 : decode cX3_hasObject 12 = .ok (.iconst 1, 1) := by decide +kernel
theorem dX3_hasObject_13 : decode cX3_hasObject 13 = .ok (.goto 4, 3) := by decide +kernel
theorem dX3_hasObject_16 : decode cX3_hasObject 16 = .ok (.iconst 0, 1) := by decide +kernel
theorem dX3_hasObject_17 : decode cX3_hasObject 17 = .ok (.ireturn, 1) := by decide +kernel
theorem dX3_hasStep_0 : decode cX3_hasStep 0 = .ok (.iload_n 1, 1) := by decide +kernel
theorem dX3_hasStep_1 : decode cX3_hasStep 1 = .ok (.ifCond .lt 15, 3) := by decide +kernel
theorem dX3_hasStep_4 : decode cX3_hasStep 4 = .ok (.iload_n 1, 1) := by decide +kernel
theorem dX3_hasStep_5 : decode cX3_hasStep 5 = .ok (.aload_n 0, 1) := by decide +kernel
theorem dX3_hasStep_6 : decode cX3_hasStep 6 = .ok (.getfield 19, 3) := by decide +kernel
theorem dX3_hasStep_9 : decode cX3_hasStep 9 = .ok (.if_icmp .ge 7, 3) := by decide +kernel
theorem dX3_hasStep_12 : decode cX3_hasStep 12 = .ok (.iconst 1, 1) := by decide +kernel
theorem dX3_hasStep_13 : decode cX3_hasStep 13 = .ok (.goto 4, 3) := by decide +kernel
theorem dX3_hasStep_16 : decode cX3_hasStep 16 = .ok (.iconst 0, 1) := by decide +kernel
theorem dX3_hasStep_17 : decode cX3_hasStep 17 = .ok (.ireturn, 1) := by decide +kernel
theorem dX3_clear_0 : decode cX3_clear 0 = .ok (.aload_n 0, 1) := by decide +kernel
theorem dX3_clear_1 : decode cX3_clear 1 = .ok (.iconst 0, 1) := by decide +kernel
theorem dX3_clear_2 : decode cX3_clear 2 = .ok (.putfield 9, 3) := by decide +kernel
theorem dX3_clear_5 : decode cX3_clear 5 = .ok (.aload_n 0, 1) := by decide +kernel
theorem dX3_clear_6 : decode cX3_clear 6 = .ok (.iconst 0, 1) := by decide +kernel
theorem dX3_clear_7 : decode cX3_clear 7 = .ok (.putfield 19, 3) := by decide +kernel
theorem dX3_clear_10 : decode cX3_clear 10 = .ok (.return_, 1) := by decide +kernel
theorem dX3_copyFrom_0 : decode cX3_copyFrom 0 = .ok (.aload_n 0, 1) := by decide +kernel
theorem dX3_copyFrom_1 : decode cX3_copyFrom 1 = .ok (.aload_n 1, 1) := by decide +kernel
theorem dX3_copyFrom_2 : decode cX3_copyFrom 2 = .ok (.getfield 9, 3) := by decide +kernel
theorem dX3_copyFrom_5 : decode cX3_copyFrom 5 = .ok (.putfield 9, 3) := by decide +kernel
theorem dX3_copyFrom_8 : decode cX3_copyFrom 8 = .ok (.aload_n 1, 1) := by decide +kernel
theorem dX3_copyFrom_9 : decode cX3_copyFrom 9 = .ok (.getfield 15, 3) := by decide +kernel
theorem dX3_copyFrom_12 : decode cX3_copyFrom 12 = .ok (.iconst 0, 1) := by decide +kernel
theorem dX3_copyFrom_13 : decode cX3_copyFrom 13 = .ok (.aload_n 0, 1) := by decide +kernel
theorem dX3_copyFrom_14 : decode cX3_copyFrom 14 = .ok (.getfield 15, 3) := by decide +kernel
theorem dX3_copyFrom_17 : decode cX3_copyFrom 17 = .ok (.iconst 0, 1) := by decide +kernel
theorem dX3_copyFrom_18 : decode cX3_copyFrom 18 = .ok (.bipush 16, 2) := by decide +kernel
theorem dX3_copyFrom_20 : decode cX3_copyFrom 20 = .ok (.invokestatic 31, 3) := by decide +kernel
theorem dX3_copyFrom_23 : decode cX3_copyFrom 23 = .ok (.aload_n 0, 1) := by decide +kernel
theorem dX3_copyFrom_24 : decode cX3_copyFrom 24 = .ok (.aload_n 1, 1) := by decide +kernel
theorem dX3_copyFrom_25 : decode cX3_copyFrom 25 = .ok (.getfield 19, 3) := by decide +kernel
theorem dX3_copyFrom_28 : decode cX3_copyFrom 28 = .ok (.putfield 19, 3) := by decide +kernel
theorem dX3_copyFrom_31 : decode cX3_copyFrom 31 = .ok (.aload_n 1, 1) := by decide +kernel
theorem dX3_copyFrom_32 : decode cX3_copyFrom 32 = .ok (.getfield 22, 3) := by decide +kernel
theorem dX3_copyFrom_35 : decode cX3_copyFrom 35 = .ok (.iconst 0, 1) := by decide +kernel
theorem dX3_copyFrom_36 : decode cX3_copyFrom 36 = .ok (.aload_n 0, 1) := by decide +kernel
theorem dX3_copyFrom_37 : decode cX3_copyFrom 37 = .ok (.getfield 22, 3) := by decide +kernel
theorem dX3_copyFrom_40 : decode cX3_copyFrom 40 = .ok (.iconst 0, 1) := by decide +kernel
theorem dX3_copyFrom_41 : decode cX3_copyFrom 41 = .ok (.bipush 32, 2) := by decide +kernel
theorem dX3_copyFrom_43 : decode cX3_copyFrom 43 = .ok (.invokestatic 31, 3) := by decide +kernel
theorem dX3_copyFrom_46 : decode cX3_copyFrom 46 = .ok (.aload_n 1, 1) := by decide +kernel
theorem dX3_copyFrom_47 : decode cX3_copyFrom 47 = .ok (.getfield 25, 3) := by decide +kernel
theorem dX3_copyFrom_50 : decode cX3_copyFrom 50 = .ok (.iconst 0, 1) := by decide +kernel
theorem dX3_copyFrom_51 : decode cX3_copyFrom 51 = .ok (.aload_n 0, 1) := by decide +kernel
theorem dX3_copyFrom_52 : decode cX3_copyFrom 52 = .ok (.getfield 25, 3) := by decide +kernel
theorem dX3_copyFrom_55 : decode cX3_copyFrom 55 = .ok (.iconst 0, 1) := by decide +kernel
theorem dX3_copyFrom_56 : decode cX3_copyFrom 56 = .ok (.bipush 32, 2) := by decide +kernel
theorem dX3_copyFrom_58 : decode cX3_copyFrom 58 = .ok (.invokestatic 31, 3) := by decide +kernel
theorem dX3_copyFrom_61 : decode cX3_copyFrom 61 = .ok (.aload_n 1, 1) := by decide +kernel
theorem dX3_copyFrom_62 : decode cX3_copyFrom 62 = .ok (.getfield 28, 3) := by decide +kernel
theorem dX3_copyFrom_65 : decode cX3_copyFrom 65 = .ok (.iconst 0, 1) := by decide +kernel
theorem dX3_copyFrom_66 : decode cX3_copyFrom 66 = .ok (.aload_n 0, 1) := by decide +kernel
theorem dX3_copyFrom_67 : decode cX3_copyFrom 67 = .ok (.getfield 28, 3) := by decide +kernel
theorem dX3_copyFrom_70 : decode cX3_copyFrom 70 = .ok (.iconst 0, 1) := by decide +kernel
theorem dX3_copyFrom_71 : decode cX3_copyFrom 71 = .ok (.bipush 32, 2) := by decide +kernel
theorem dX3_copyFrom_73 : decode cX3_copyFrom 73 = .ok (.invokestatic 31, 3) := by decide +kernel
theorem dX3_copyFrom_76 : decode cX3_copyFrom 76 = .ok (.return_, 1) := by decide +kernel
theorem dX3_appendObject_0 : decode cX3_appendObject 0 = .ok (.aload_n 0, 1) := by decide +kernel
theorem dX3_appendObject_1 : decode cX3_appendObject 1 = .ok (.getfield 9, 3) := by decide +kernel
theorem dX3_appendObject_4 : decode cX3_appendObject 4 = .ok (.bipush 16, 2) := by decide +kernel
theorem dX3_appendObject_6 : decode cX3_appendObject 6 = .ok (.if_icmp .lt 6, 3) := by decide +kernel
theorem dX3_appendObject_9 : decode cX3_appendObject 9 = .ok (.bipush (-3), 2) := by decide +kernel
theorem dX3_appendObject_11 : decode cX3_appendObject 11 = .ok (.ireturn, 1) := by decide +kernel
theorem dX3_appendObject_12 : decode cX3_appendObject 12 = .ok (.aload_n 0, 1) := by decide +kernel
theorem dX3_appendObject_13 : decode cX3_appendObject 13 = .ok (.getfield 15, 3) := by decide +kernel
theorem dX3_appendObject_16 : decode cX3_appendObject 16 = .ok (.aload_n 0, 1) := by decide +kernel
theorem dX3_appendObject_17 : decode cX3_appendObject 17 = .ok (.getfield 9, 3) := by decide +kernel
theorem dX3_appendObject_20 : decode cX3_appendObject 20 = .ok (.iload_n 1, 1) := by decide +kernel
theorem dX3_appendObject_21 : decode cX3_appendObject 21 = .ok (.iastore, 1) := by decide +kernel
theorem dX3_appendObject_22 : decode cX3_appendObject 22 = .ok (.aload_n 0, 1) := by decide +kernel
theorem dX3_appendObject_23 : decode cX3_appendObject 23 = .ok (.dup, 1) := by decide +kernel
theorem dX3_appendObject_24 : decode cX3_appendObject 24 = .ok (.getfield 9, 3) := by decide +kernel
theorem dX3_appendObject_27 : decode cX3_appendObject 27 = .ok (.iconst 1, 1) := by decide +kernel
theorem dX3_appendObject_28 : decode cX3_appendObject 28 = .ok (.iadd, 1) := by decide +kernel
theorem dX3_appendObject_29 : decode cX3_appendObject 29 = .ok (.putfield 9, 3) := by decide +kernel
theorem dX3_appendObject_32 : decode cX3_appendObject 32 = .ok (.aload_n 0, 1) := by decide +kernel
theorem dX3_appendObject_33 : decode cX3_appendObject 33 = .ok (.getfield 9, 3) := by decide +kernel
theorem dX3_appendObject_36 : decode cX3_appendObject 36 = .ok (.iconst 1, 1) := by decide +kernel
theorem dX3_appendObject_37 : decode cX3_appendObject 37 = .ok (.isub, 1) := by decide +kernel
theorem dX3_appendObject_38 : decode cX3_appendObject 38 = .ok (.ireturn, 1) := by decide +kernel
theorem dX3_appendStep_0 : decode cX3_appendStep 0 = .ok (.aload_n 0, 1) := by decide +kernel
theorem dX3_appendStep_1 : decode cX3_appendStep 1 = .ok (.getfield 19, 3) := by decide +kernel
theorem dX3_appendStep_4 : decode cX3_appendStep 4 = .ok (.bipush 32, 2) := by decide +kernel
theorem dX3_appendStep_6 : decode cX3_appendStep 6 = .ok (.if_icmp .lt 6, 3) := by decide +kernel
theorem dX3_appendStep_9 : decode cX3_appendStep 9 = .ok (.bipush (-3), 2) := by decide +kernel
theorem dX3_appendStep_11 : decode cX3_appendStep 11 = .ok (.ireturn, 1) := by decide +kernel
theorem dX3_appendStep_12 : decode cX3_appendStep 12 = .ok (.aload_n 0, 1) := by decide +kernel
theorem dX3_appendStep_13 : decode cX3_appendStep 13 = .ok (.getfield 22, 3) := by decide +kernel
theorem dX3_appendStep_16 : decode cX3_appendStep 16 = .ok (.aload_n 0, 1) := by decide +kernel
theorem dX3_appendStep_17 : decode cX3_appendStep 17 = .ok (.getfield 19, 3) := by decide +kernel
theorem dX3_appendStep_20 : decode cX3_appendStep 20 = .ok (.iload_n 1, 1) := by decide +kernel
theorem dX3_appendStep_21 : decode cX3_appendStep 21 = .ok (.iastore, 1) := by decide +kernel
theorem dX3_appendStep_22 : decode cX3_appendStep 22 = .ok (.aload_n 0, 1) := by decide +kernel
theorem dX3_appendStep_23 : decode cX3_appendStep 23 = .ok (.getfield 25, 3) := by decide +kernel
theorem dX3_appendStep_26 : decode cX3_appendStep 26 = .ok (.aload_n 0, 1) := by decide +kernel
theorem dX3_appendStep_27 : decode cX3_appendStep 27 = .ok (.getfield 19, 3) := by decide +kernel
theorem dX3_appendStep_30 : decode cX3_appendStep 30 = .ok (.iload_n 2, 1) := by decide +kernel
theorem dX3_appendStep_31 : decode cX3_appendStep 31 = .ok (.iastore, 1) := by decide +kernel
theorem dX3_appendStep_32 : decode cX3_appendStep 32 = .ok (.aload_n 0, 1) := by decide +kernel
theorem dX3_appendStep_33 : decode cX3_appendStep 33 = .ok (.getfield 28, 3) := by decide +kernel
theorem dX3_appendStep_36 : decode cX3_appendStep 36 = .ok (.aload_n 0, 1) := by decide +kernel
theorem dX3_appendStep_37 : decode cX3_appendStep 37 = .ok (.getfield 19, 3) := by decide +kernel
theorem dX3_appendStep_40 : decode cX3_appendStep 40 = .ok (.iload_n 3, 1) := by decide +kernel
theorem dX3_appendStep_41 : decode cX3_appendStep 41 = .ok (.iastore, 1) := by decide +kernel
theorem dX3_appendStep_42 : decode cX3_appendStep 42 = .ok (.aload_n 0, 1) := by decide +kernel
theorem dX3_appendStep_43 : decode cX3_appendStep 43 = .ok (.dup, 1) := by decide +kernel
theorem dX3_appendStep_44 : decode cX3_appendStep 44 = .ok (.getfield 19, 3) := by decide +kernel
theorem dX3_appendStep_47 : decode cX3_appendStep 47 = .ok (.iconst 1, 1) := by decide +kernel
theorem dX3_appendStep_48 : decode cX3_appendStep 48 = .ok (.iadd, 1) := by decide +kernel
theorem dX3_appendStep_49 : decode cX3_appendStep 49 = .ok (.putfield 19, 3) := by decide +kernel
theorem dX3_appendStep_52 : decode cX3_appendStep 52 = .ok (.aload_n 0, 1) := by decide +kernel
theorem dX3_appendStep_53 : decode cX3_appendStep 53 = .ok (.getfield 19, 3) := by decide +kernel
theorem dX3_appendStep_56 : decode cX3_appendStep 56 = .ok (.iconst 1, 1) := by decide +kernel
theorem dX3_appendStep_57 : decode cX3_appendStep 57 = .ok (.isub, 1) := by decide +kernel
theorem dX3_appendStep_58 : decode cX3_appendStep 58 = .ok (.ireturn, 1) := by decide +kernel
theorem dX3_dropStep_0 : decode cX3_dropStep 0 = .ok (.aload_n 0, 1) := by decide +kernel
theorem dX3_dropStep_1 : decode cX3_dropStep 1 = .ok (.dup, 1) := by decide +kernel
theorem dX3_dropStep_2 : decode cX3_dropStep 2 = .ok (.getfield 19, 3) := by decide +kernel
theorem dX3_dropStep_5 : decode cX3_dropStep 5 = .ok (.iconst 1, 1) := by decide +kernel
theorem dX3_dropStep_6 : decode cX3_dropStep 6 = .ok (.isub, 1) := by decide +kernel
theorem dX3_dropStep_7 : decode cX3_dropStep 7 = .ok (.putfield 19, 3) := by decide +kernel
theorem dX3_dropStep_10 : decode cX3_dropStep 10 = .ok (.iload_n 1, 1) := by decide +kernel
theorem dX3_dropStep_11 : decode cX3_dropStep 11 = .ok (.istore_n 2, 1) := by decide +kernel
theorem dX3_dropStep_12 : decode cX3_dropStep 12 = .ok (.iload_n 2, 1) := by decide +kernel
theorem dX3_dropStep_13 : decode cX3_dropStep 13 = .ok (.aload_n 0, 1) := by decide +kernel
theorem dX3_dropStep_14 : decode cX3_dropStep 14 = .ok (.getfield 19, 3) := by decide +kernel
theorem dX3_dropStep_17 : decode cX3_dropStep 17 = .ok (.if_icmp .ge 51, 3) := by decide +kernel
theorem dX3_dropStep_20 : decode cX3_dropStep 20 = .ok (.aload_n 0, 1) := by decide +kernel
theorem dX3_dropStep_21 : decode cX3_dropStep 21 = .ok (.getfield 22, 3) := by decide +kernel
theorem dX3_dropStep_24 : decode cX3_dropStep 24 = .ok (.iload_n 2, 1) := by decide +kernel
theorem dX3_dropStep_25 : decode cX3_dropStep 25 = .ok (.aload_n 0, 1) := by decide +kernel
theorem dX3_dropStep_26 : decode cX3_dropStep 26 = .ok (.getfield 22, 3) := by decide +kernel
theorem dX3_dropStep_29 : decode cX3_dropStep 29 = .ok (.iload_n 2, 1) := by decide +kernel
theorem dX3_dropStep_30 : decode cX3_dropStep 30 = .ok (.iconst 1, 1) := by decide +kernel
theorem dX3_dropStep_31 : decode cX3_dropStep 31 = .ok (.iadd, 1) := by decide +kernel
theorem dX3_dropStep_32 : decode cX3_dropStep 32 = .ok (.iaload, 1) := by decide +kernel
theorem dX3_dropStep_33 : decode cX3_dropStep 33 = .ok (.iastore, 1) := by decide +kernel
theorem dX3_dropStep_34 : decode cX3_dropStep 34 = .ok (.aload_n 0, 1) := by decide +kernel
theorem dX3_dropStep_35 : decode cX3_dropStep 35 = .ok (.getfield 25, 3) := by decide +kernel
theorem dX3_dropStep_38 : decode cX3_dropStep 38 = .ok (.iload_n 2, 1) := by decide +kernel
theorem dX3_dropStep_39 : decode cX3_dropStep 39 = .ok (.aload_n 0, 1) := by decide +kernel
theorem dX3_dropStep_40 : decode cX3_dropStep 40 = .ok (.getfield 25, 3) := by decide +kernel
theorem dX3_dropStep_43 : decode cX3_dropStep 43 = .ok (.iload_n 2, 1) := by decide +kernel
theorem dX3_dropStep_44 : decode cX3_dropStep 44 = .ok (.iconst 1, 1) := by decide +kernel
theorem dX3_dropStep_45 : decode cX3_dropStep 45 = .ok (.iadd, 1) := by decide +kernel
theorem dX3_dropStep_46 : decode cX3_dropStep 46 = .ok (.iaload, 1) := by decide +kernel
theorem dX3_dropStep_47 : decode cX3_dropStep 47 = .ok (.iastore, 1) := by decide +kernel
theorem dX3_dropStep_48 : decode cX3_dropStep 48 = .ok (.aload_n 0, 1) := by decide +kernel
theorem dX3_dropStep_49 : decode cX3_dropStep 49 = .ok (.getfield 28, 3) := by decide +kernel
theorem dX3_dropStep_52 : decode cX3_dropStep 52 = .ok (.iload_n 2, 1) := by decide +kernel
theorem dX3_dropStep_53 : decode cX3_dropStep 53 = .ok (.aload_n 0, 1) := by decide +kernel
theorem dX3_dropStep_54 : decode cX3_dropStep 54 = .ok (.getfield 28, 3) := by decide +kernel
theorem dX3_dropStep_57 : decode cX3_dropStep 57 = .ok (.iload_n 2, 1) := by decide +kernel
theorem dX3_dropStep_58 : decode cX3_dropStep 58 = .ok (.iconst 1, 1) := by decide +kernel
theorem dX3_dropStep_59 : decode cX3_dropStep 59 = .ok (.iadd, 1) := by decide +kernel
theorem dX3_dropStep_60 : decode cX3_dropStep 60 = .ok (.iaload, 1) := by decide +kernel
theorem dX3_dropStep_61 : decode cX3_dropStep 61 = .ok (.iastore, 1) := by decide +kernel
theorem dX3_dropStep_62 : decode cX3_dropStep 62 = .ok (.iinc 2 1, 3) := by decide +kernel
theorem dX3_dropStep_65 : decode cX3_dropStep 65 = .ok (.goto (-53), 3) := by decide +kernel
theorem dX3_dropStep_68 : decode cX3_dropStep 68 = .ok (.return_, 1) := by decide +kernel
theorem dX3_objectOf_0 : decode cX3_objectOf 0 = .ok (.iconst 0, 1) := by decide +kernel
theorem dX3_objectOf_1 : decode cX3_objectOf 1 = .ok (.istore_n 2, 1) := by decide +kernel
theorem dX3_objectOf_2 : decode cX3_objectOf 2 = .ok (.iload_n 2, 1) := by decide +kernel
theorem dX3_objectOf_3 : decode cX3_objectOf 3 = .ok (.aload_n 0, 1) := by decide +kernel
theorem dX3_objectOf_4 : decode cX3_objectOf 4 = .ok (.getfield 9, 3) := by decide +kernel
theorem dX3_objectOf_7 : decode cX3_objectOf 7 = .ok (.if_icmp .ge 21, 3) := by decide +kernel
theorem dX3_objectOf_10 : decode cX3_objectOf 10 = .ok (.aload_n 0, 1) := by decide +kernel
theorem dX3_objectOf_11 : decode cX3_objectOf 11 = .ok (.getfield 15, 3) := by decide +kernel
theorem dX3_objectOf_14 : decode cX3_objectOf 14 = .ok (.iload_n 2, 1) := by decide +kernel
theorem dX3_objectOf_15 : decode cX3_objectOf 15 = .ok (.iaload, 1) := by decide +kernel
theorem dX3_objectOf_16 : decode cX3_objectOf 16 = .ok (.iload_n 1, 1) := by decide +kernel
theorem dX3_objectOf_17 : decode cX3_objectOf 17 = .ok (.if_icmp .ne 5, 3) := by decide +kernel
theorem dX3_objectOf_20 : decode cX3_objectOf 20 = .ok (.iload_n 2, 1) := by decide +kernel
theorem dX3_objectOf_21 : decode cX3_objectOf 21 = .ok (.ireturn, 1) := by decide +kernel
theorem dX3_objectOf_22 : decode cX3_objectOf 22 = .ok (.iinc 2 1, 3) := by decide +kernel
theorem dX3_objectOf_25 : decode cX3_objectOf 25 = .ok (.goto (-23), 3) := by decide +kernel
theorem dX3_objectOf_28 : decode cX3_objectOf 28 = .ok (.bipush (-2), 2) := by decide +kernel
theorem dX3_objectOf_30 : decode cX3_objectOf 30 = .ok (.ireturn, 1) := by decide +kernel
theorem dX3_isJoined_0 : decode cX3_isJoined 0 = .ok (.iconst 0, 1) := by decide +kernel
theorem dX3_isJoined_1 : decode cX3_isJoined 1 = .ok (.istore 4, 2) := by decide +kernel
theorem dX3_isJoined_3 : decode cX3_isJoined 3 = .ok (.iload 4, 2) := by decide +kernel
theorem dX3_isJoined_5 : decode cX3_isJoined 5 = .ok (.aload_n 0, 1) := by decide +kernel
theorem dX3_isJoined_6 : decode cX3_isJoined 6 = .ok (.getfield 19, 3) := by decide +kernel
theorem dX3_isJoined_9 : decode cX3_isJoined 9 = .ok (.if_icmp .ge 44, 3) := by decide +kernel
theorem dX3_isJoined_12 : decode cX3_isJoined 12 = .ok (.aload_n 0, 1) := by decide +kernel
theorem dX3_isJoined_13 : decode cX3_isJoined 13 = .ok (.getfield 22, 3) := by decide +kernel
theorem dX3_isJoined_16 : decode cX3_isJoined 16 = .ok (.iload 4, 2) := by decide +kernel
theorem dX3_isJoined_18 : decode cX3_isJoined 18 = .ok (.iaload, 1) := by decide +kernel
theorem dX3_isJoined_19 : decode cX3_isJoined 19 = .ok (.iload_n 1, 1) := by decide +kernel
theorem dX3_isJoined_20 : decode cX3_isJoined 20 = .ok (.if_icmp .ne 27, 3) := by decide +kernel
theorem dX3_isJoined_23 : decode cX3_isJoined 23 = .ok (.aload_n 0, 1) := by decide +kernel
theorem dX3_isJoined_24 : decode cX3_isJoined 24 = .ok (.getfield 25, 3) := by decide +kernel
theorem dX3_isJoined_27 : decode cX3_isJoined 27 = .ok (.iload 4, 2) := by decide +kernel
theorem dX3_isJoined_29 : decode cX3_isJoined 29 = .ok (.iaload, 1) := by decide +kernel
theorem dX3_isJoined_30 : decode cX3_isJoined 30 = .ok (.iload_n 2, 1) := by decide +kernel
theorem dX3_isJoined_31 : decode cX3_isJoined 31 = .ok (.if_icmp .ne 16, 3) := by decide +kernel
theorem dX3_isJoined_34 : decode cX3_isJoined 34 = .ok (.aload_n 0, 1) := by decide +kernel
theorem dX3_isJoined_35 : decode cX3_isJoined 35 = .ok (.getfield 28, 3) := by decide +kernel
theorem dX3_isJoined_38 : decode cX3_isJoined 38 = .ok (.iload 4, 2) := by decide +kernel
theorem dX3_isJoined_40 : decode cX3_isJoined 40 = .ok (.iaload, 1) := by decide +kernel
theorem dX3_isJoined_41 : decode cX3_isJoined 41 = .ok (.iload_n 3, 1) := by decide +kernel
theorem dX3_isJoined_42 : decode cX3_isJoined 42 = .ok (.if_icmp .ne 5, 3) := by decide +kernel
theorem dX3_isJoined_45 : decode cX3_isJoined 45 = .ok (.iconst 1, 1) := by decide +kernel
theorem dX3_isJoined_46 : decode cX3_isJoined 46 = .ok (.ireturn, 1) := by decide +kernel
theorem dX3_isJoined_47 : decode cX3_isJoined 47 = .ok (.iinc 4 1, 3) := by decide +kernel
theorem dX3_isJoined_50 : decode cX3_isJoined 50 = .ok (.goto (-47), 3) := by decide +kernel
theorem dX3_isJoined_53 : decode cX3_isJoined 53 = .ok (.iconst 0, 1) := by decide +kernel
theorem dX3_isJoined_54 : decode cX3_isJoined 54 = .ok (.ireturn, 1) := by decide +kernel
theorem dX3_successors_0 : decode cX3_successors 0 = .ok (.iconst 0, 1) := by decide +kernel
theorem dX3_successors_1 : decode cX3_successors 1 = .ok (.istore_n 3, 1) := by decide +kernel
theorem dX3_successors_2 : decode cX3_successors 2 = .ok (.iconst 0, 1) := by decide +kernel
theorem dX3_successors_3 : decode cX3_successors 3 = .ok (.istore 4, 2) := by decide +kernel
theorem dX3_successors_5 : decode cX3_successors 5 = .ok (.iload 4, 2) := by decide +kernel
theorem dX3_successors_7 : decode cX3_successors 7 = .ok (.aload_n 0, 1) := by decide +kernel
theorem dX3_successors_8 : decode cX3_successors 8 = .ok (.getfield 19, 3) := by decide +kernel
theorem dX3_successors_11 : decode cX3_successors 11 = .ok (.if_icmp .ge 45, 3) := by decide +kernel
theorem dX3_successors_14 : decode cX3_successors 14 = .ok (.iload_n 1, 1) := by decide +kernel
theorem dX3_successors_15 : decode cX3_successors 15 = .ok (.aload_n 0, 1) := by decide +kernel
theorem dX3_successors_16 : decode cX3_successors 16 = .ok (.getfield 22, 3) := by decide +kernel
theorem dX3_successors_19 : decode cX3_successors 19 = .ok (.iload 4, 2) := by decide +kernel
theorem dX3_successors_21 : decode cX3_successors 21 = .ok (.iaload, 1) := by decide +kernel
theorem dX3_successors_22 : decode cX3_successors 22 = .ok (.ishr, 1) := by decide +kernel
theorem dX3_successors_23 : decode cX3_successors 23 = .ok (.iload_n 2, 1) := by decide +kernel
theorem dX3_successors_24 : decode cX3_successors 24 = .ok (.aload_n 0, 1) := by decide +kernel
theorem dX3_successors_25 : decode cX3_successors 25 = .ok (.getfield 28, 3) := by decide +kernel
theorem dX3_successors_28 : decode cX3_successors 28 = .ok (.iload 4, 2) := by decide +kernel
theorem dX3_successors_30 : decode cX3_successors 30 = .ok (.iaload, 1) := by decide +kernel
theorem dX3_successors_31 : decode cX3_successors 31 = .ok (.ishr, 1) := by decide +kernel
theorem dX3_successors_32 : decode cX3_successors 32 = .ok (.iand, 1) := by decide +kernel
theorem dX3_successors_33 : decode cX3_successors 33 = .ok (.iconst 1, 1) := by decide +kernel
theorem dX3_successors_34 : decode cX3_successors 34 = .ok (.iand, 1) := by decide +kernel
theorem dX3_successors_35 : decode cX3_successors 35 = .ok (.ifCond .eq 15, 3) := by decide +kernel
theorem dX3_successors_38 : decode cX3_successors 38 = .ok (.iload_n 3, 1) := by decide +kernel
theorem dX3_successors_39 : decode cX3_successors 39 = .ok (.iconst 1, 1) := by decide +kernel
theorem dX3_successors_40 : decode cX3_successors 40 = .ok (.aload_n 0, 1) := by decide +kernel
theorem dX3_successors_41 : decode cX3_successors 41 = .ok (.getfield 25, 3) := by decide +kernel
theorem dX3_successors_44 : decode cX3_successors 44 = .ok (.iload 4, 2) := by decide +kernel
theorem dX3_successors_46 : decode cX3_successors 46 = .ok (.iaload, 1) := by decide +kernel
theorem dX3_successors_47 : decode cX3_successors 47 = .ok (.ishl, 1) := by decide +kernel
theorem dX3_successors_48 : decode cX3_successors 48 = .ok (.ior, 1) := by decide +kernel
theorem dX3_successors_49 : decode cX3_successors 49 = .ok (.istore_n 3, 1) := by decide +kernel
theorem dX3_successors_50 : decode cX3_successors 50 = .ok (.iinc 4 1, 3) := by decide +kernel
theorem dX3_successors_53 : decode cX3_successors 53 = .ok (.goto (-48), 3) := by decide +kernel
theorem dX3_successors_56 : decode cX3_successors 56 = .ok (.iload_n 3, 1) := by decide +kernel
theorem dX3_successors_57 : decode cX3_successors 57 = .ok (.ireturn, 1) := by decide +kernel
set_option maxRecDepth 20000 in
theorem ggX3_closure_X3_successors : GoodIn wsX3_closure wsX3_successors := goodIn_r _ [6, 7, 8, 9, 10, 11, 12, 13, 14, 15, 16] (by decide +kernel) (by decide +kernel)
set_option maxRecDepth 20000 in
theorem gX3_closure_X3_successors : GoodIn wsX3_closure (wsV RX3 37 RX3 yX3_successors wsX3_successors) := goodIn_app (goodIn_of _ (by decide +kernel)) ggX3_closure_X3_successors
theorem dX3_closure_0 : decode cX3_closure 0 = .ok (.iload_n 2, 1) := by decide +kernel
theorem dX3_closure_1 : decode cX3_closure 1 = .ok (.ifCond .ne 5, 3) := by decide +kernel
theorem dX3_closure_4 : decode cX3_closure 4 = .ok (.iload_n 1, 1) := by decide +kernel
theorem dX3_closure_5 : decode cX3_closure 5 = .ok (.ireturn, 1) := by decide +kernel
theorem dX3_closure_6 : decode cX3_closure 6 = .ok (.iload_n 1, 1) := by decide +kernel
theorem dX3_closure_7 : decode cX3_closure 7 = .ok (.istore_n 3, 1) := by decide +kernel
theorem dX3_closure_8 : decode cX3_closure 8 = .ok (.iconst 0, 1) := by decide +kernel
theorem dX3_closure_9 : decode cX3_closure 9 = .ok (.istore 4, 2) := by decide +kernel
theorem dX3_closure_11 : decode cX3_closure 11 = .ok (.iload 4, 2) := by decide +kernel
theorem dX3_closure_13 : decode cX3_closure 13 = .ok (.aload_n 0, 1) := by decide +kernel
theorem dX3_closure_14 : decode cX3_closure 14 = .ok (.getfield 9, 3) := by decide +kernel
theorem dX3_closure_17 : decode cX3_closure 17 = .ok (.if_icmp .ge 30, 3) := by decide +kernel
theorem dX3_closure_20 : decode cX3_closure 20 = .ok (.iload_n 3, 1) := by decide +kernel
theorem dX3_closure_21 : decode cX3_closure 21 = .ok (.aload_n 0, 1) := by decide +kernel
theorem dX3_closure_22 : decode cX3_closure 22 = .ok (.iload_n 3, 1) := by decide +kernel
theorem dX3_closure_23 : decode cX3_closure 23 = .ok (.iload_n 2, 1) := by decide +kernel
theorem dX3_closure_24 : decode cX3_closure 24 = .ok (.invokevirtual 37, 3) := by decide +kernel
theorem dX3_closure_27 : decode cX3_closure 27 = .ok (.ior, 1) := by decide +kernel
theorem dX3_closure_28 : decode cX3_closure 28 = .ok (.istore 5, 2) := by decide +kernel
theorem dX3_closure_30 : decode cX3_closure 30 = .ok (.iload 5, 2) := by decide +kernel
theorem dX3_closure_32 : decode cX3_closure 32 = .ok (.iload_n 3, 1) := by decide +kernel
theorem dX3_closure_33 : decode cX3_closure 33 = .ok (.if_icmp .ne 5, 3) := by decide +kernel
theorem dX3_closure_36 : decode cX3_closure 36 = .ok (.iload_n 3, 1) := by decide +kernel
theorem dX3_closure_37 : decode cX3_closure 37 = .ok (.ireturn, 1) := by decide +kernel
theorem dX3_closure_38 : decode cX3_closure 38 = .ok (.iload 5, 2) := by decide +kernel
theorem dX3_closure_40 : decode cX3_closure 40 = .ok (.istore_n 3, 1) := by decide +kernel
theorem dX3_closure_41 : decode cX3_closure 41 = .ok (.iinc 4 1, 3) := by decide +kernel
theorem dX3_closure_44 : decode cX3_closure 44 = .ok (.goto (-33), 3) := by decide +kernel
theorem dX3_closure_47 : decode cX3_closure 47 = .ok (.iload_n 3, 1) := by decide +kernel
theorem dX3_closure_48 : decode cX3_closure 48 = .ok (.ireturn, 1) := by decide +kernel
set_option maxRecDepth 20000 in
theorem ggX3_fillReach_X3_closure : GoodIn wsX3_fillReach wsX3_closure := goodIn_r _ [6, 1, 7, 8, 9, 5, 10, 11, 12, 13, 14, 15, 16, 17, 18, 19, 20] (by decide +kernel) (by decide +kernel)
set_option maxRecDepth 20000 in
theorem gX3_fillReach_X3_closure : GoodIn wsX3_fillReach (wsV RX3 41 RX3 yX3_closure wsX3_closure) := goodIn_app (goodIn_of _ (by decide +kernel)) ggX3_fillReach_X3_closure
theorem dX3_fillReach_0 : decode cX3_fillReach 0 = .ok (.iconst 0, 1) := by decide +kernel
theorem dX3_fillReach_1 : decode cX3_fillReach 1 = .ok (.istore_n 2, 1) := by decide +kernel
theorem dX3_fillReach_2 : decode cX3_fillReach 2 = .ok (.iload_n 2, 1) := by decide +kernel
theorem dX3_fillReach_3 : decode cX3_fillReach 3 = .ok (.aload_n 0, 1) := by decide +kernel
theorem dX3_fillReach_4 : decode cX3_fillReach 4 = .ok (.getfield 9, 3) := by decide +kernel
theorem dX3_fillReach_7 : decode cX3_fillReach 7 = .ok (.if_icmp .ge 28, 3) := by decide +kernel
theorem dX3_fillReach_10 : decode cX3_fillReach 10 = .ok (.iload_n 2, 1) := by decide +kernel
theorem dX3_fillReach_11 : decode cX3_fillReach 11 = .ok (.aload_n 1, 1) := by decide +kernel
theorem dX3_fillReach_12 : decode cX3_fillReach 12 = .ok (.arraylength, 1) := by decide +kernel
theorem dX3_fillReach_13 : decode cX3_fillReach 13 = .ok (.if_icmp .ge 22, 3) := by decide +kernel
theorem dX3_fillReach_16 : decode cX3_fillReach 16 = .ok (.aload_n 1, 1) := by decide +kernel
theorem dX3_fillReach_17 : decode cX3_fillReach 17 = .ok (.iload_n 2, 1) := by decide +kernel
theorem dX3_fillReach_18 : decode cX3_fillReach 18 = .ok (.aload_n 0, 1) := by decide +kernel
theorem dX3_fillReach_19 : decode cX3_fillReach 19 = .ok (.iconst 1, 1) := by decide +kernel
theorem dX3_fillReach_20 : decode cX3_fillReach 20 = .ok (.iload_n 2, 1) := by decide +kernel
theorem dX3_fillReach_21 : decode cX3_fillReach 21 = .ok (.ishl, 1) := by decide +kernel
theorem dX3_fillReach_22 : decode cX3_fillReach 22 = .ok (.sipush 255, 3) := by decide +kernel
theorem dX3_fillReach_25 : decode cX3_fillReach 25 = .ok (.invokevirtual 41, 3) := by decide +kernel
theorem dX3_fillReach_28 : decode cX3_fillReach 28 = .ok (.iastore, 1) := by decide +kernel
theorem dX3_fillReach_29 : decode cX3_fillReach 29 = .ok (.iinc 2 1, 3) := by decide +kernel
theorem dX3_fillReach_32 : decode cX3_fillReach 32 = .ok (.goto (-30), 3) := by decide +kernel
theorem dX3_fillReach_35 : decode cX3_fillReach 35 = .ok (.return_, 1) := by decide +kernel
theorem dX3_normalForms_0 : decode cX3_normalForms 0 = .ok (.iconst 1, 1) := by decide +kernel
theorem dX3_normalForms_1 : decode cX3_normalForms 1 = .ok (.aload_n 0, 1) := by decide +kernel
theorem dX3_normalForms_2 : decode cX3_normalForms 2 = .ok (.getfield 9, 3) := by decide +kernel
theorem dX3_normalForms_5 : decode cX3_normalForms 5 = .ok (.ishl, 1) := by decide +kernel
theorem dX3_normalForms_6 : decode cX3_normalForms 6 = .ok (.iconst 1, 1) := by decide +kernel
theorem dX3_normalForms_7 : decode cX3_normalForms 7 = .ok (.isub, 1) := by decide +kernel
theorem dX3_normalForms_8 : decode cX3_normalForms 8 = .ok (.istore_n 1, 1) := by decide +kernel
theorem dX3_normalForms_9 : decode cX3_normalForms 9 = .ok (.iconst 0, 1) := by decide +kernel
theorem dX3_normalForms_10 : decode cX3_normalForms 10 = .ok (.istore_n 2, 1) := by decide +kernel
theorem dX3_normalForms_11 : decode cX3_normalForms 11 = .ok (.iload_n 2, 1) := by decide +kernel
theorem dX3_normalForms_12 : decode cX3_normalForms 12 = .ok (.aload_n 0, 1) := by decide +kernel
theorem dX3_normalForms_13 : decode cX3_normalForms 13 = .ok (.getfield 19, 3) := by decide +kernel
theorem dX3_normalForms_16 : decode cX3_normalForms 16 = .ok (.if_icmp .ge 22, 3) := by decide +kernel
theorem dX3_normalForms_19 : decode cX3_normalForms 19 = .ok (.iload_n 1, 1) := by decide +kernel
theorem dX3_normalForms_20 : decode cX3_normalForms 20 = .ok (.iconst 1, 1) := by decide +kernel
theorem dX3_normalForms_21 : decode cX3_normalForms 21 = .ok (.aload_n 0, 1) := by decide +kernel
theorem dX3_normalForms_22 : decode cX3_normalForms 22 = .ok (.getfield 22, 3) := by decide +kernel
theorem dX3_normalForms_25 : decode cX3_normalForms 25 = .ok (.iload_n 2, 1) := by decide +kernel
theorem dX3_normalForms_26 : decode cX3_normalForms 26 = .ok (.iaload, 1) := by decide +kernel
theorem dX3_normalForms_27 : decode cX3_normalForms 27 = .ok (.ishl, 1) := by decide +kernel
theorem dX3_normalForms_28 : decode cX3_normalForms 28 = .ok (.iconst (-1), 1) := by decide +kernel
theorem dX3_normalForms_29 : decode cX3_normalForms 29 = .ok (.ixor, 1) := by decide +kernel
theorem dX3_normalForms_30 : decode cX3_normalForms 30 = .ok (.iand, 1) := by decide +kernel
theorem dX3_normalForms_31 : decode cX3_normalForms 31 = .ok (.istore_n 1, 1) := by decide +kernel
theorem dX3_normalForms_32 : decode cX3_normalForms 32 = .ok (.iinc 2 1, 3) := by decide +kernel
theorem dX3_normalForms_35 : decode cX3_normalForms 35 = .ok (.goto (-24), 3) := by decide +kernel
theorem dX3_normalForms_38 : decode cX3_normalForms 38 = .ok (.iload_n 1, 1) := by decide +kernel
theorem dX3_normalForms_39 : decode cX3_normalForms 39 = .ok (.ireturn, 1) := by decide +kernel
set_option maxRecDepth 20000 in
theorem ggX3_convertible_X11_isIn : GoodIn wsX3_convertible wsX11_isIn := goodIn_r _ [7] (by decide +kernel) (by decide +kernel)
set_option maxRecDepth 20000 in
theorem gX3_convertible_X11_isIn_n44 : GoodIn wsX3_convertible (wsX11_isIn) := ggX3_convertible_X11_isIn
theorem dX3_convertible_0 : decode cX3_convertible 0 = .ok (.iconst 1, 1) := by decide +kernel
theorem dX3_convertible_1 : decode cX3_convertible 1 = .ok (.iload_n 1, 1) := by decide +kernel
theorem dX3_convertible_2 : decode cX3_convertible 2 = .ok (.ishl, 1) := by decide +kernel
theorem dX3_convertible_3 : decode cX3_convertible 3 = .ok (.istore_n 2, 1) := by decide +kernel
theorem dX3_convertible_4 : decode cX3_convertible 4 = .ok (.iconst 0, 1) := by decide +kernel
theorem dX3_convertible_5 : decode cX3_convertible 5 = .ok (.istore_n 3, 1) := by decide +kernel
theorem dX3_convertible_6 : decode cX3_convertible 6 = .ok (.iload_n 3, 1) := by decide +kernel
theorem dX3_convertible_7 : decode cX3_convertible 7 = .ok (.aload_n 0, 1) := by decide +kernel
theorem dX3_convertible_8 : decode cX3_convertible 8 = .ok (.getfield 9, 3) := by decide +kernel
theorem dX3_convertible_11 : decode cX3_convertible 11 = .ok (.if_icmp .ge 77, 3) := by decide +kernel
theorem dX3_convertible_14 : decode cX3_convertible 14 = .ok (.iconst 0, 1) := by decide +kernel
theorem dX3_convertible_15 : decode cX3_convertible 15 = .ok (.istore 4, 2) := by decide +kernel
theorem dX3_convertible_17 : decode cX3_convertible 17 = .ok (.iload 4, 2) := by decide +kernel
theorem dX3_convertible_19 : decode cX3_convertible 19 = .ok (.aload_n 0, 1) := by decide +kernel
theorem dX3_convertible_20 : decode cX3_convertible 20 = .ok (.getfield 19, 3) := by decide +kernel
theorem dX3_convertible_23 : decode cX3_convertible 23 = .ok (.if_icmp .ge 59, 3) := by decide +kernel
theorem dX3_convertible_26 : decode cX3_convertible 26 = .ok (.iload_n 2, 1) := by decide +kernel
theorem dX3_convertible_27 : decode cX3_convertible 27 = .ok (.aload_n 0, 1) := by decide +kernel
theorem dX3_convertible_28 : decode cX3_convertible 28 = .ok (.getfield 22, 3) := by decide +kernel
theorem dX3_convertible_31 : decode cX3_convertible 31 = .ok (.iload 4, 2) := by decide +kernel
theorem dX3_convertible_33 : decode cX3_convertible 33 = .ok (.iaload, 1) := by decide +kernel
theorem dX3_convertible_34 : decode cX3_convertible 34 = .ok (.invokestatic 44, 3) := by decide +kernel
theorem dX3_convertible_37 : decode cX3_convertible 37 = .ok (.ifCond .ne 17, 3) := by decide +kernel
theorem dX3_convertible_40 : decode cX3_convertible 40 = .ok (.iload_n 2, 1) := by decide +kernel
theorem dX3_convertible_41 : decode cX3_convertible 41 = .ok (.aload_n 0, 1) := by decide +kernel
theorem dX3_convertible_42 : decode cX3_convertible 42 = .ok (.getfield 25, 3) := by decide +kernel
theorem dX3_convertible_45 : decode cX3_convertible 45 = .ok (.iload 4, 2) := by decide +kernel
theorem dX3_convertible_47 : decode cX3_convertible 47 = .ok (.iaload, 1) := by decide +kernel
theorem dX3_convertible_48 : decode cX3_convertible 48 = .ok (.invokestatic 44, 3) := by decide +kernel
theorem dX3_convertible_51 : decode cX3_convertible 51 = .ok (.ifCond .eq 25, 3) := by decide +kernel
theorem dX3_convertible_54 : decode cX3_convertible 54 = .ok (.iload_n 2, 1) := by decide +kernel
theorem dX3_convertible_55 : decode cX3_convertible 55 = .ok (.iconst 1, 1) := by decide +kernel
theorem dX3_convertible_56 : decode cX3_convertible 56 = .ok (.aload_n 0, 1) := by decide +kernel
theorem dX3_convertible_57 : decode cX3_convertible 57 = .ok (.getfield 22, 3) := by decide +kernel
theorem dX3_convertible_60 : decode cX3_convertible 60 = .ok (.iload 4, 2) := by decide +kernel
theorem dX3_convertible_62 : decode cX3_convertible 62 = .ok (.iaload, 1) := by decide +kernel
theorem dX3_convertible_63 : decode cX3_convertible 63 = .ok (.ishl, 1) := by decide +kernel
theorem dX3_convertible_64 : decode cX3_convertible 64 = .ok (.iconst 1, 1) := by decide +kernel
theorem dX3_convertible_65 : decode cX3_convertible 65 = .ok (.aload_n 0, 1) := by decide +kernel
theorem dX3_convertible_66 : decode cX3_convertible 66 = .ok (.getfield 25, 3) := by decide +kernel
theorem dX3_convertible_69 : decode cX3_convertible 69 = .ok (.iload 4, 2) := by decide +kernel
theorem dX3_convertible_71 : decode cX3_convertible 71 = .ok (.iaload, 1) := by decide +kernel
theorem dX3_convertible_72 : decode cX3_convertible 72 = .ok (.ishl, 1) := by decide +kernel
theorem dX3_convertible_73 : decode cX3_convertible 73 = .ok (.ior, 1) := by decide +kernel
theorem dX3_convertible_74 : decode cX3_convertible 74 = .ok (.ior, 1) := by decide +kernel
theorem dX3_convertible_75 : decode cX3_convertible 75 = .ok (.istore_n 2, 1) := by decide +kernel
theorem dX3_convertible_76 : decode cX3_convertible 76 = .ok (.iinc 4 1, 3) := by decide +kernel
theorem dX3_convertible_79 : decode cX3_convertible 79 = .ok (.goto (-62), 3) := by decide +kernel
theorem dX3_convertible_82 : decode cX3_convertible 82 = .ok (.iinc 3 1, 3) := by decide +kernel
theorem dX3_convertible_85 : decode cX3_convertible 85 = .ok (.goto (-79), 3) := by decide +kernel
theorem dX3_convertible_88 : decode cX3_convertible 88 = .ok (.iload_n 2, 1) := by decide +kernel
theorem dX3_convertible_89 : decode cX3_convertible 89 = .ok (.ireturn, 1) := by decide +kernel
set_option maxRecDepth 20000 in
theorem ggX3_longestFrom_X3_successors : GoodIn wsX3_longestFrom wsX3_successors := goodIn_r _ [6, 7, 8, 9, 10, 11, 12, 13, 14, 15, 16] (by decide +kernel) (by decide +kernel)
set_option maxRecDepth 20000 in
theorem gX3_longestFrom_X3_successors : GoodIn wsX3_longestFrom (wsV RX3 37 RX3 yX3_successors wsX3_successors) := goodIn_app (goodIn_of _ (by decide +kernel)) ggX3_longestFrom_X3_successors
theorem dX3_longestFrom_0 : decode cX3_longestFrom 0 = .ok (.iload_n 1, 1) := by decide +kernel
theorem dX3_longestFrom_1 : decode cX3_longestFrom 1 = .ok (.istore_n 2, 1) := by decide +kernel
theorem dX3_longestFrom_2 : decode cX3_longestFrom 2 = .ok (.iconst 0, 1) := by decide +kernel
theorem dX3_longestFrom_3 : decode cX3_longestFrom 3 = .ok (.istore_n 3, 1) := by decide +kernel
theorem dX3_longestFrom_4 : decode cX3_longestFrom 4 = .ok (.iload_n 3, 1) := by decide +kernel
theorem dX3_longestFrom_5 : decode cX3_longestFrom 5 = .ok (.aload_n 0, 1) := by decide +kernel
theorem dX3_longestFrom_6 : decode cX3_longestFrom 6 = .ok (.getfield 9, 3) := by decide +kernel
theorem dX3_longestFrom_9 : decode cX3_longestFrom 9 = .ok (.if_icmp .gt 24, 3) := by decide +kernel
theorem dX3_longestFrom_12 : decode cX3_longestFrom 12 = .ok (.aload_n 0, 1) := by decide +kernel
theorem dX3_longestFrom_13 : decode cX3_longestFrom 13 = .ok (.iload_n 2, 1) := by decide +kernel
theorem dX3_longestFrom_14 : decode cX3_longestFrom 14 = .ok (.sipush 255, 3) := by decide +kernel
theorem dX3_longestFrom_17 : decode cX3_longestFrom 17 = .ok (.invokevirtual 37, 3) := by decide +kernel
theorem dX3_longestFrom_20 : decode cX3_longestFrom 20 = .ok (.istore_n 2, 1) := by decide +kernel
theorem dX3_longestFrom_21 : decode cX3_longestFrom 21 = .ok (.iload_n 2, 1) := by decide +kernel
theorem dX3_longestFrom_22 : decode cX3_longestFrom 22 = .ok (.ifCond .ne 5, 3) := by decide +kernel
theorem dX3_longestFrom_25 : decode cX3_longestFrom 25 = .ok (.iload_n 3, 1) := by decide +kernel
theorem dX3_longestFrom_26 : decode cX3_longestFrom 26 = .ok (.ireturn, 1) := by decide +kernel
theorem dX3_longestFrom_27 : decode cX3_longestFrom 27 = .ok (.iinc 3 1, 3) := by decide +kernel
theorem dX3_longestFrom_30 : decode cX3_longestFrom 30 = .ok (.goto (-26), 3) := by decide +kernel
theorem dX3_longestFrom_33 : decode cX3_longestFrom 33 = .ok (.bipush (-2), 2) := by decide +kernel
theorem dX3_longestFrom_35 : decode cX3_longestFrom 35 = .ok (.ireturn, 1) := by decide +kernel
set_option maxRecDepth 20000 in
theorem ggX4_init_X3_init : GoodIn wsX4_init wsX3_init := goodIn_r _ [20, 21, 2, 3, 22, 16, 23, 24, 25, 26, 27, 42, 43, 44, 45, 46, 47] (by decide +kernel) (by decide +kernel)
set_option maxRecDepth 20000 in
theorem gX4_init_X3_init_n11 : GoodIn wsX4_init (wsX3_init) := ggX4_init_X3_init
set_option maxRecDepth 20000 in
theorem ggX4_init_X2_init : GoodIn wsX4_init wsX2_init := goodIn_r _ [29, 30, 2, 3, 16, 31, 32, 53, 54] (by decide +kernel) (by decide +kernel)
set_option maxRecDepth 20000 in
theorem gX4_init_X2_init_n20 : GoodIn wsX4_init (wsX2_init) := ggX4_init_X2_init
set_option maxRecDepth 20000 in
theorem ggX4_init_X7_init : GoodIn wsX4_init wsX7_init := goodIn_r _ [34, 35, 2, 3, 36, 16, 37, 38, 55, 56, 57] (by decide +kernel) (by decide +kernel)
set_option maxRecDepth 20000 in
theorem gX4_init_X7_init_n27 : GoodIn wsX4_init (wsX7_init) := ggX4_init_X7_init
set_option maxRecDepth 20000 in
theorem ggX4_init_X2_makeNatural : GoodIn wsX4_init wsX2_makeNatural := goodIn_r _ [41, 31, 32, 53, 54] (by decide +kernel) (by decide +kernel)
set_option maxRecDepth 20000 in
theorem gX4_init_X2_makeNatural_n40 : GoodIn wsX4_init (wsX2_makeNatural) := ggX4_init_X2_makeNatural
theorem dX4_init_0 : decode cX4_init 0 = .ok (.aload_n 0, 1) := by decide +kernel
theorem dX4_init_1 : decode cX4_init 1 = .ok (.invokespecial 3, 3) := by decide +kernel
theorem dX4_init_4 : decode cX4_init 4 = .ok (.aload_n 0, 1) := by decide +kernel
theorem dX4_init_5 : decode cX4_init 5 = .ok (.new 9, 3) := by decide +kernel
theorem dX4_init_8 : decode cX4_init 8 = .ok (.dup, 1) := by decide +kernel
theorem dX4_init_9 : decode cX4_init 9 = .ok (.invokespecial 11, 3) := by decide +kernel
theorem dX4_init_12 : decode cX4_init 12 = .ok (.putfield 12, 3) := by decide +kernel
theorem dX4_init_15 : decode cX4_init 15 = .ok (.aload_n 0, 1) := by decide +kernel
theorem dX4_init_16 : decode cX4_init 16 = .ok (.new 18, 3) := by decide +kernel
theorem dX4_init_19 : decode cX4_init 19 = .ok (.dup, 1) := by decide +kernel
theorem dX4_init_20 : decode cX4_init 20 = .ok (.invokespecial 20, 3) := by decide +kernel
theorem dX4_init_23 : decode cX4_init 23 = .ok (.putfield 21, 3) := by decide +kernel
theorem dX4_init_26 : decode cX4_init 26 = .ok (.aload_n 0, 1) := by decide +kernel
theorem dX4_init_27 : decode cX4_init 27 = .ok (.new 25, 3) := by decide +kernel
theorem dX4_init_30 : decode cX4_init 30 = .ok (.dup, 1) := by decide +kernel
theorem dX4_init_31 : decode cX4_init 31 = .ok (.invokespecial 27, 3) := by decide +kernel
theorem dX4_init_34 : decode cX4_init 34 = .ok (.putfield 28, 3) := by decide +kernel
theorem dX4_init_37 : decode cX4_init 37 = .ok (.aload_n 0, 1) := by decide +kernel
theorem dX4_init_38 : decode cX4_init 38 = .ok (.bipush 8, 2) := by decide +kernel
theorem dX4_init_40 : decode cX4_init 40 = .ok (.newarray .int, 2) := by decide +kernel
theorem dX4_init_42 : decode cX4_init 42 = .ok (.putfield 32, 3) := by decide +kernel
theorem dX4_init_45 : decode cX4_init 45 = .ok (.aload_n 0, 1) := by decide +kernel
theorem dX4_init_46 : decode cX4_init 46 = .ok (.bipush (-2), 2) := by decide +kernel
theorem dX4_init_48 : decode cX4_init 48 = .ok (.putfield 36, 3) := by decide +kernel
theorem dX4_init_51 : decode cX4_init 51 = .ok (.aload_n 0, 1) := by decide +kernel
theorem dX4_init_52 : decode cX4_init 52 = .ok (.getfield 21, 3) := by decide +kernel
theorem dX4_init_55 : decode cX4_init 55 = .ok (.invokevirtual 40, 3) := by decide +kernel
theorem dX4_init_58 : decode cX4_init 58 = .ok (.return_, 1) := by decide +kernel
set_option maxRecDepth 20000 in
theorem ggX4_findFirst_X4_begin : GoodIn wsX4_findFirst wsX4_begin := goodIn_r _ [14, 2, 1, 15, 16, 17, 18, 19, 20, 21, 6, 7, 8, 22, 23, 24, 25, 26, 27, 28, 29, 30, 31, 32, 54, 55, 56, 57, 58, 59, 60, 61, 62, 63, 64, 65, 66, 67] (by decide +kernel) (by decide +kernel)
set_option maxRecDepth 20000 in
theorem gX4_findFirst_X4_begin : GoodIn wsX4_findFirst (wsV RX4 43 RX4 yX4_begin wsX4_begin) := goodIn_app (goodIn_of _ (by decide +kernel)) ggX4_findFirst_X4_begin
set_option maxRecDepth 20000 in
theorem ggX4_findFirst_X7_firstFailing : GoodIn wsX4_findFirst wsX7_firstFailing := goodIn_r _ [35, 30, 36, 37, 38, 27, 39, 31, 32, 40, 41, 42, 43, 16, 44, 45, 19, 46, 47, 48, 49, 22, 23, 25, 24, 65, 66, 67, 59, 60, 61, 62, 63, 64, 68, 69] (by decide +kernel) (by decide +kernel)
set_option maxRecDepth 20000 in
theorem gX4_findFirst_X7_firstFailing_n47 : GoodIn wsX4_findFirst (wsX7_firstFailing) := ggX4_findFirst_X7_firstFailing
set_option maxRecDepth 20000 in
theorem ggX4_findFirst_X4_advance : GoodIn wsX4_findFirst wsX4_advance := goodIn_r _ [53, 2, 54, 55, 56, 57, 58, 59, 60, 61, 62, 63, 64] (by decide +kernel) (by decide +kernel)
set_option maxRecDepth 20000 in
theorem gX4_findFirst_X4_advance : GoodIn wsX4_findFirst (wsV RX4 63 RX4 yX4_advance wsX4_advance) := goodIn_app (goodIn_of _ (by decide +kernel)) ggX4_findFirst_X4_advance
theorem dX4_findFirst_0 : decode cX4_findFirst 0 = .ok (.aload_n 0, 1) := by decide +kernel
theorem dX4_findFirst_1 : decode cX4_findFirst 1 = .ok (.aload_n 1, 1) := by decide +kernel
theorem dX4_findFirst_2 : decode cX4_findFirst 2 = .ok (.iload_n 2, 1) := by decide +kernel
theorem dX4_findFirst_3 : decode cX4_findFirst 3 = .ok (.invokevirtual 43, 3) := by decide +kernel
theorem dX4_findFirst_6 : decode cX4_findFirst 6 = .ok (.istore_n 3, 1) := by decide +kernel
theorem dX4_findFirst_7 : decode cX4_findFirst 7 = .ok (.iconst 0, 1) := by decide +kernel
theorem dX4_findFirst_8 : decode cX4_findFirst 8 = .ok (.istore 4, 2) := by decide +kernel
theorem dX4_findFirst_10 : decode cX4_findFirst 10 = .ok (.iload 4, 2) := by decide +kernel
theorem dX4_findFirst_12 : decode cX4_findFirst 12 = .ok (.iload_n 3, 1) := by decide +kernel
theorem dX4_findFirst_13 : decode cX4_findFirst 13 = .ok (.if_icmp .ge 65, 3) := by decide +kernel
theorem dX4_findFirst_16 : decode cX4_findFirst 16 = .ok (.aload_n 0, 1) := by decide +kernel
theorem dX4_findFirst_17 : decode cX4_findFirst 17 = .ok (.getfield 28, 3) := by decide +kernel
theorem dX4_findFirst_20 : decode cX4_findFirst 20 = .ok (.aload_n 0, 1) := by decide +kernel
theorem dX4_findFirst_21 : decode cX4_findFirst 21 = .ok (.getfield 12, 3) := by decide +kernel
theorem dX4_findFirst_24 : decode cX4_findFirst 24 = .ok (.aload_n 0, 1) := by decide +kernel
theorem dX4_findFirst_25 : decode cX4_findFirst 25 = .ok (.getfield 21, 3) := by decide +kernel
theorem dX4_findFirst_28 : decode cX4_findFirst 28 = .ok (.invokevirtual 47, 3) := by decide +kernel
theorem dX4_findFirst_31 : decode cX4_findFirst 31 = .ok (.bipush (-2), 2) := by decide +kernel
theorem dX4_findFirst_33 : decode cX4_findFirst 33 = .ok (.if_icmp .ne 34, 3) := by decide +kernel
theorem dX4_findFirst_36 : decode cX4_findFirst 36 = .ok (.aload_n 0, 1) := by decide +kernel
theorem dX4_findFirst_37 : decode cX4_findFirst 37 = .ok (.getfield 12, 3) := by decide +kernel
theorem dX4_findFirst_40 : decode cX4_findFirst 40 = .ok (.getfield 51, 3) := by decide +kernel
theorem dX4_findFirst_43 : decode cX4_findFirst 43 = .ok (.iconst 0, 1) := by decide +kernel
theorem dX4_findFirst_44 : decode cX4_findFirst 44 = .ok (.aload_n 0, 1) := by decide +kernel
theorem dX4_findFirst_45 : decode cX4_findFirst 45 = .ok (.getfield 32, 3) := by decide +kernel
theorem dX4_findFirst_48 : decode cX4_findFirst 48 = .ok (.iconst 0, 1) := by decide +kernel
theorem dX4_findFirst_49 : decode cX4_findFirst 49 = .ok (.bipush 8, 2) := by decide +kernel
theorem dX4_findFirst_51 : decode cX4_findFirst 51 = .ok (.invokestatic 54, 3) := by decide +kernel
theorem dX4_findFirst_54 : decode cX4_findFirst 54 = .ok (.aload_n 0, 1) := by decide +kernel
theorem dX4_findFirst_55 : decode cX4_findFirst 55 = .ok (.aload_n 0, 1) := by decide +kernel
theorem dX4_findFirst_56 : decode cX4_findFirst 56 = .ok (.getfield 12, 3) := by decide +kernel
theorem dX4_findFirst_59 : decode cX4_findFirst 59 = .ok (.getfield 60, 3) := by decide +kernel
theorem dX4_findFirst_62 : decode cX4_findFirst 62 = .ok (.putfield 36, 3) := by decide +kernel
theorem dX4_findFirst_65 : decode cX4_findFirst 65 = .ok (.iconst 1, 1) := by decide +kernel
theorem dX4_findFirst_66 : decode cX4_findFirst 66 = .ok (.ireturn, 1) := by decide +kernel
theorem dX4_findFirst_67 : decode cX4_findFirst 67 = .ok (.aload_n 0, 1) := by decide +kernel
theorem dX4_findFirst_68 : decode cX4_findFirst 68 = .ok (.iload_n 2, 1) := by decide +kernel
theorem dX4_findFirst_69 : decode cX4_findFirst 69 = .ok (.invokevirtual 63, 3) := by decide +kernel
theorem dX4_findFirst_72 : decode cX4_findFirst 72 = .ok (.iinc 4 1, 3) := by decide +kernel
theorem dX4_findFirst_75 : decode cX4_findFirst 75 = .ok (.goto (-65), 3) := by decide +kernel
theorem dX4_findFirst_78 : decode cX4_findFirst 78 = .ok (.iconst 0, 1) := by decide +kernel
theorem dX4_findFirst_79 : decode cX4_findFirst 79 = .ok (.ireturn, 1) := by decide +kernel
set_option maxRecDepth 20000 in
theorem ggX4_countAll_X4_begin : GoodIn wsX4_countAll wsX4_begin := goodIn_r _ [8, 2, 1, 9, 10, 11, 12, 13, 14, 15, 16, 17, 18, 19, 20, 21, 22, 23, 24, 25, 26, 27, 28, 29, 51, 52, 53, 54, 55, 56, 57, 58, 59, 60, 61, 62, 63, 64] (by decide +kernel) (by decide +kernel)
set_option maxRecDepth 20000 in
theorem gX4_countAll_X4_begin : GoodIn wsX4_countAll (wsV RX4 43 RX4 yX4_begin wsX4_begin) := goodIn_app (goodIn_of _ (by decide +kernel)) ggX4_countAll_X4_begin
set_option maxRecDepth 20000 in
theorem ggX4_countAll_X7_firstFailing : GoodIn wsX4_countAll wsX7_firstFailing := goodIn_r _ [32, 27, 33, 34, 35, 24, 36, 28, 29, 37, 38, 39, 40, 10, 41, 42, 13, 43, 44, 45, 46, 19, 20, 22, 21, 62, 63, 64, 56, 57, 58, 59, 60, 61, 65, 66] (by decide +kernel) (by decide +kernel)
set_option maxRecDepth 20000 in
theorem gX4_countAll_X7_firstFailing_n47 : GoodIn wsX4_countAll (wsX7_firstFailing) := ggX4_countAll_X7_firstFailing
set_option maxRecDepth 20000 in
theorem ggX4_countAll_X4_advance : GoodIn wsX4_countAll wsX4_advance := goodIn_r _ [50, 2, 51, 52, 53, 54, 55, 56, 57, 58, 59, 60, 61] (by decide +kernel) (by decide +kernel)
set_option maxRecDepth 20000 in
theorem gX4_countAll_X4_advance : GoodIn wsX4_countAll (wsV RX4 63 RX4 yX4_advance wsX4_advance) := goodIn_app (goodIn_of _ (by decide +kernel)) ggX4_countAll_X4_advance
theorem dX4_countAll_0 : decode cX4_countAll 0 = .ok (.aload_n 0, 1) := by decide +kernel
theorem dX4_countAll_1 : decode cX4_countAll 1 = .ok (.aload_n 1, 1) := by decide +kernel
theorem dX4_countAll_2 : decode cX4_countAll 2 = .ok (.iload_n 2, 1) := by decide +kernel
theorem dX4_countAll_3 : decode cX4_countAll 3 = .ok (.invokevirtual 43, 3) := by decide +kernel
theorem dX4_countAll_6 : decode cX4_countAll 6 = .ok (.istore_n 3, 1) := by decide +kernel
theorem dX4_countAll_7 : decode cX4_countAll 7 = .ok (.iconst 0, 1) := by decide +kernel
theorem dX4_countAll_8 : decode cX4_countAll 8 = .ok (.istore 4, 2) := by decide +kernel
theorem dX4_countAll_10 : decode cX4_countAll 10 = .ok (.iconst 0, 1) := by decide +kernel
theorem dX4_countAll_11 : decode cX4_countAll 11 = .ok (.istore 5, 2) := by decide +kernel
theorem dX4_countAll_13 : decode cX4_countAll 13 = .ok (.iload 5, 2) := by decide +kernel
theorem dX4_countAll_15 : decode cX4_countAll 15 = .ok (.iload_n 3, 1) := by decide +kernel
theorem dX4_countAll_16 : decode cX4_countAll 16 = .ok (.if_icmp .ge 37, 3) := by decide +kernel
theorem dX4_countAll_19 : decode cX4_countAll 19 = .ok (.aload_n 0, 1) := by decide +kernel
theorem dX4_countAll_20 : decode cX4_countAll 20 = .ok (.getfield 28, 3) := by decide +kernel
theorem dX4_countAll_23 : decode cX4_countAll 23 = .ok (.aload_n 0, 1) := by decide +kernel
theorem dX4_countAll_24 : decode cX4_countAll 24 = .ok (.getfield 12, 3) := by decide +kernel
theorem dX4_countAll_27 : decode cX4_countAll 27 = .ok (.aload_n 0, 1) := by decide +kernel
theorem dX4_countAll_28 : decode cX4_countAll 28 = .ok (.getfield 21, 3) := by decide +kernel
theorem dX4_countAll_31 : decode cX4_countAll 31 = .ok (.invokevirtual 47, 3) := by decide +kernel
theorem dX4_countAll_34 : decode cX4_countAll 34 = .ok (.bipush (-2), 2) := by decide +kernel
theorem dX4_countAll_36 : decode cX4_countAll 36 = .ok (.if_icmp .ne 6, 3) := by decide +kernel
theorem dX4_countAll_39 : decode cX4_countAll 39 = .ok (.iinc 4 1, 3) := by decide +kernel
theorem dX4_countAll_42 : decode cX4_countAll 42 = .ok (.aload_n 0, 1) := by decide +kernel
theorem dX4_countAll_43 : decode cX4_countAll 43 = .ok (.iload_n 2, 1) := by decide +kernel
theorem dX4_countAll_44 : decode cX4_countAll 44 = .ok (.invokevirtual 63, 3) := by decide +kernel
theorem dX4_countAll_47 : decode cX4_countAll 47 = .ok (.iinc 5 1, 3) := by decide +kernel
theorem dX4_countAll_50 : decode cX4_countAll 50 = .ok (.goto (-37), 3) := by decide +kernel
theorem dX4_countAll_53 : decode cX4_countAll 53 = .ok (.iload 4, 2) := by decide +kernel
theorem dX4_countAll_55 : decode cX4_countAll 55 = .ok (.ireturn, 1) := by decide +kernel
set_option maxRecDepth 20000 in
theorem ggX4_begin_X3_copyFrom : GoodIn wsX4_begin wsX3_copyFrom := goodIn_r _ [6, 7, 8, 9, 10, 11, 12, 13, 14, 15, 16, 29, 30, 31, 32, 33, 34] (by decide +kernel) (by decide +kernel)
set_option maxRecDepth 20000 in
theorem gX4_begin_X3_copyFrom_n67 : GoodIn wsX4_begin (wsX3_copyFrom) := ggX4_begin_X3_copyFrom
set_option maxRecDepth 20000 in
theorem ggX4_begin_X7_collect : GoodIn wsX4_begin wsX7_collect := goodIn_r _ [20, 21, 22, 23, 35, 36, 37, 29, 30, 31, 32, 33, 34] (by decide +kernel) (by decide +kernel)
set_option maxRecDepth 20000 in
theorem gX4_begin_X7_collect_n71 : GoodIn wsX4_begin (wsX7_collect) := ggX4_begin_X7_collect
theorem dX4_begin_0 : decode cX4_begin 0 = .ok (.aload_n 0, 1) := by decide +kernel
theorem dX4_begin_1 : decode cX4_begin 1 = .ok (.getfield 12, 3) := by decide +kernel
theorem dX4_begin_4 : decode cX4_begin 4 = .ok (.aload_n 1, 1) := by decide +kernel
theorem dX4_begin_5 : decode cX4_begin 5 = .ok (.invokevirtual 67, 3) := by decide +kernel
theorem dX4_begin_8 : decode cX4_begin 8 = .ok (.aload_n 0, 1) := by decide +kernel
theorem dX4_begin_9 : decode cX4_begin 9 = .ok (.getfield 28, 3) := by decide +kernel
theorem dX4_begin_12 : decode cX4_begin 12 = .ok (.aload_n 0, 1) := by decide +kernel
theorem dX4_begin_13 : decode cX4_begin 13 = .ok (.getfield 12, 3) := by decide +kernel
theorem dX4_begin_16 : decode cX4_begin 16 = .ok (.invokevirtual 71, 3) := by decide +kernel
theorem dX4_begin_19 : decode cX4_begin 19 = .ok (.iconst 1, 1) := by decide +kernel
theorem dX4_begin_20 : decode cX4_begin 20 = .ok (.istore_n 3, 1) := by decide +kernel
theorem dX4_begin_21 : decode cX4_begin 21 = .ok (.iconst 0, 1) := by decide +kernel
theorem dX4_begin_22 : decode cX4_begin 22 = .ok (.istore 4, 2) := by decide +kernel
theorem dX4_begin_24 : decode cX4_begin 24 = .ok (.iload 4, 2) := by decide +kernel
theorem dX4_begin_26 : decode cX4_begin 26 = .ok (.aload_n 0, 1) := by decide +kernel
theorem dX4_begin_27 : decode cX4_begin 27 = .ok (.getfield 12, 3) := by decide +kernel
theorem dX4_begin_30 : decode cX4_begin 30 = .ok (.getfield 60, 3) := by decide +kernel
theorem dX4_begin_33 : decode cX4_begin 33 = .ok (.if_icmp .ge 31, 3) := by decide +kernel
theorem dX4_begin_36 : decode cX4_begin 36 = .ok (.iload 4, 2) := by decide +kernel
theorem dX4_begin_38 : decode cX4_begin 38 = .ok (.bipush 8, 2) := by decide +kernel
theorem dX4_begin_40 : decode cX4_begin 40 = .ok (.if_icmp .ge 24, 3) := by decide +kernel
theorem dX4_begin_43 : decode cX4_begin 43 = .ok (.aload_n 0, 1) := by decide +kernel
theorem dX4_begin_44 : decode cX4_begin 44 = .ok (.getfield 12, 3) := by decide +kernel
theorem dX4_begin_47 : decode cX4_begin 47 = .ok (.getfield 51, 3) := by decide +kernel
theorem dX4_begin_50 : decode cX4_begin 50 = .ok (.iload 4, 2) := by decide +kernel
theorem dX4_begin_52 : decode cX4_begin 52 = .ok (.iconst 0, 1) := by decide +kernel
theorem dX4_begin_53 : decode cX4_begin 53 = .ok (.iastore, 1) := by decide +kernel
theorem dX4_begin_54 : decode cX4_begin 54 = .ok (.iload_n 3, 1) := by decide +kernel
theorem dX4_begin_55 : decode cX4_begin 55 = .ok (.iload_n 2, 1) := by decide +kernel
theorem dX4_begin_56 : decode cX4_begin 56 = .ok (.imul, 1) := by decide +kernel
theorem dX4_begin_57 : decode cX4_begin 57 = .ok (.istore_n 3, 1) := by decide +kernel
theorem dX4_begin_58 : decode cX4_begin 58 = .ok (.iinc 4 1, 3) := by decide +kernel
theorem dX4_begin_61 : decode cX4_begin 61 = .ok (.goto (-37), 3) := by decide +kernel
theorem dX4_begin_64 : decode cX4_begin 64 = .ok (.iload_n 3, 1) := by decide +kernel
theorem dX4_begin_65 : decode cX4_begin 65 = .ok (.ireturn, 1) := by decide +kernel
theorem dX4_advance_0 : decode cX4_advance 0 = .ok (.aload_n 0, 1) := by decide +kernel
theorem dX4_advance_1 : decode cX4_advance 1 = .ok (.getfield 12, 3) := by decide +kernel
theorem dX4_advance_4 : decode cX4_advance 4 = .ok (.getfield 60, 3) := by decide +kernel
theorem dX4_advance_7 : decode cX4_advance 7 = .ok (.iconst 1, 1) := by decide +kernel
theorem dX4_advance_8 : decode cX4_advance 8 = .ok (.isub, 1) := by decide +kernel
theorem dX4_advance_9 : decode cX4_advance 9 = .ok (.istore_n 2, 1) := by decide +kernel
theorem dX4_advance_10 : decode cX4_advance 10 = .ok (.iload_n 2, 1) := by decide +kernel
theorem dX4_advance_11 : decode cX4_advance 11 = .ok (.ifCond .lt 48, 3) := by decide +kernel
theorem dX4_advance_14 : decode cX4_advance 14 = .ok (.aload_n 0, 1) := by decide +kernel
theorem dX4_advance_15 : decode cX4_advance 15 = .ok (.getfield 12, 3) := by decide +kernel
theorem dX4_advance_18 : decode cX4_advance 18 = .ok (.getfield 51, 3) := by decide +kernel
theorem dX4_advance_21 : decode cX4_advance 21 = .ok (.iload_n 2, 1) := by decide +kernel
theorem dX4_advance_22 : decode cX4_advance 22 = .ok (.iaload, 1) := by decide +kernel
theorem dX4_advance_23 : decode cX4_advance 23 = .ok (.iconst 1, 1) := by decide +kernel
theorem dX4_advance_24 : decode cX4_advance 24 = .ok (.iadd, 1) := by decide +kernel
theorem dX4_advance_25 : decode cX4_advance 25 = .ok (.iload_n 1, 1) := by decide +kernel
theorem dX4_advance_26 : decode cX4_advance 26 = .ok (.if_icmp .ge 17, 3) := by decide +kernel
theorem dX4_advance_29 : decode cX4_advance 29 = .ok (.aload_n 0, 1) := by decide +kernel
theorem dX4_advance_30 : decode cX4_advance 30 = .ok (.getfield 12, 3) := by decide +kernel
theorem dX4_advance_33 : decode cX4_advance 33 = .ok (.getfield 51, 3) := by decide +kernel
theorem dX4_advance_36 : decode cX4_advance 36 = .ok (.iload_n 2, 1) := by decide +kernel
theorem dX4_advance_37 : decode cX4_advance 37 = .ok (.dup2, 1) := by decide +kernel
theorem dX4_advance_38 : decode cX4_advance 38 = .ok (.iaload, 1) := by decide +kernel
theorem dX4_advance_39 : decode cX4_advance 39 = .ok (.iconst 1, 1) := by decide +kernel
theorem dX4_advance_40 : decode cX4_advance 40 = .ok (.iadd, 1) := by decide +kernel
theorem dX4_advance_41 : decode cX4_advance 41 = .ok (.iastore, 1) := by decide +kernel
theorem dX4_advance_42 : decode cX4_advance 42 = .ok (.return_, 1) := by decide +kernel
theorem dX4_advance_43 : decode cX4_advance 43 = .ok (.aload_n 0, 1) := by decide +kernel
theorem dX4_advance_44 : decode cX4_advance 44 = .ok (.getfield 12, 3) := by decide +kernel
theorem dX4_advance_47 : decode cX4_advance 47 = .ok (.getfield 51, 3) := by decide +kernel
theorem dX4_advance_50 : decode cX4_advance 50 = .ok (.iload_n 2, 1) := by decide +kernel
theorem dX4_advance_51 : decode cX4_advance 51 = .ok (.iconst 0, 1) := by decide +kernel
theorem dX4_advance_52 : decode cX4_advance 52 = .ok (.iastore, 1) := by decide +kernel
theorem dX4_advance_53 : decode cX4_advance 53 = .ok (.iinc 2 (-1), 3) := by decide +kernel
theorem dX4_advance_56 : decode cX4_advance 56 = .ok (.goto (-46), 3) := by decide +kernel
theorem dX4_advance_59 : decode cX4_advance 59 = .ok (.return_, 1) := by decide +kernel
set_option maxRecDepth 20000 in
theorem ggX5_init_J7_fill_53178 : GoodIn wsX5_init wsJ7_fill_53178 := goodIn_r _ [12] (by decide +kernel) (by decide +kernel)
set_option maxRecDepth 20000 in
theorem gX5_init_J7_fill_53178 : GoodIn wsX5_init (va_wsS RX5 20 yJ7_fill_53178 wsJ7_fill_53178) := goodIn_app (goodIn_of _ (by decide +kernel)) ggX5_init_J7_fill_53178
theorem dX5_init_0 : decode cX5_init 0 = .ok (.aload_n 0, 1) := by decide +kernel
theorem dX5_init_1 : decode cX5_init 1 = .ok (.invokespecial 3, 3) := by decide +kernel
theorem dX5_init_4 : decode cX5_init 4 = .ok (.aload_n 0, 1) := by decide +kernel
theorem dX5_init_5 : decode cX5_init 5 = .ok (.iconst 3, 1) := by decide +kernel
theorem dX5_init_6 : decode cX5_init 6 = .ok (.newarray .int, 2) := by decide +kernel
theorem dX5_init_8 : decode cX5_init 8 = .ok (.putfield 9, 3) := by decide +kernel
theorem dX5_init_11 : decode cX5_init 11 = .ok (.aload_n 0, 1) := by decide +kernel
theorem dX5_init_12 : decode cX5_init 12 = .ok (.iconst 3, 1) := by decide +kernel
theorem dX5_init_13 : decode cX5_init 13 = .ok (.bipush 16, 2) := by decide +kernel
theorem dX5_init_15 : decode cX5_init 15 = .ok (.multianewarray 15 2, 4) := by decide +kernel
theorem dX5_init_19 : decode cX5_init 19 = .ok (.putfield 17, 3) := by decide +kernel
theorem dX5_init_22 : decode cX5_init 22 = .ok (.aload_n 0, 1) := by decide +kernel
theorem dX5_init_23 : decode cX5_init 23 = .ok (.getfield 9, 3) := by decide +kernel
theorem dX5_init_26 : decode cX5_init 26 = .ok (.iconst (-1), 1) := by decide +kernel
theorem dX5_init_27 : decode cX5_init 27 = .ok (.invokestatic 20, 3) := by decide +kernel
theorem dX5_init_30 : decode cX5_init 30 = .ok (.return_, 1) := by decide +kernel
theorem dX5_isMissing_0 : decode cX5_isMissing 0 = .ok (.aload_n 0, 1) := by decide +kernel
theorem dX5_isMissing_1 : decode cX5_isMissing 1 = .ok (.getfield 9, 3) := by decide +kernel
theorem dX5_isMissing_4 : decode cX5_isMissing 4 = .ok (.iload_n 1, 1) := by decide +kernel
theorem dX5_isMissing_5 : decode cX5_isMissing 5 = .ok (.iaload, 1) := by decide +kernel
theorem dX5_isMissing_6 : decode cX5_isMissing 6 = .ok (.iconst (-1), 1) := by decide +kernel
theorem dX5_isMissing_7 : decode cX5_isMissing 7 = .ok (.if_icmp .ne 7, 3) := by decide +kernel
theorem dX5_isMissing_10 : decode cX5_isMissing 10 = .ok (.iconst 1, 1) := by decide +kernel
theorem dX5_isMissing_11 : decode cX5_isMissing 11 = .ok (.goto 4, 3) := by decide +kernel
theorem dX5_isMissing_14 : decode cX5_isMissing 14 = .ok (.iconst 0, 1) := by decide +kernel
theorem dX5_isMissing_15 : decode cX5_isMissing 15 = .ok (.ireturn, 1) := by decide +kernel
theorem dX5_hasElement_0 : decode cX5_hasElement 0 = .ok (.iload_n 2, 1) := by decide +kernel
theorem dX5_hasElement_1 : decode cX5_hasElement 1 = .ok (.ifCond .lt 17, 3) := by decide +kernel
theorem dX5_hasElement_4 : decode cX5_hasElement 4 = .ok (.iload_n 2, 1) := by decide +kernel
theorem dX5_hasElement_5 : decode cX5_hasElement 5 = .ok (.aload_n 0, 1) := by decide +kernel
theorem dX5_hasElement_6 : decode cX5_hasElement 6 = .ok (.getfield 9, 3) := by decide +kernel
theorem dX5_hasElement_9 : decode cX5_hasElement 9 = .ok (.iload_n 1, 1) := by decide +kernel
theorem dX5_hasElement_10 : decode cX5_hasElement 10 = .ok (.iaload, 1) := by decide +kernel
theorem dX5_hasElement_11 : decode cX5_hasElement 11 = .ok (.if_icmp .ge 7, 3) := by decide +kernel
theorem dX5_hasElement_14 : decode cX5_hasElement 14 = .ok (.iconst 1, 1) := by decide +kernel
theorem dX5_hasElement_15 : decode cX5_hasElement 15 = .ok (.goto 4, 3) := by decide +kernel
theorem dX5_hasElement_18 : decode cX5_hasElement 18 = .ok (.iconst 0, 1) := by decide +kernel
theorem dX5_hasElement_19 : decode cX5_hasElement 19 = .ok (.ireturn, 1) := by decide +kernel
set_option maxRecDepth 20000 in
theorem ggX5_renew_J7_fill_d0a16 : GoodIn wsX5_renew wsJ7_fill_d0a16 := goodIn_r _ [6] (by decide +kernel) (by decide +kernel)
set_option maxRecDepth 20000 in
theorem gX5_renew_J7_fill_d0a16 : GoodIn wsX5_renew (va_wsS RX5 26 yJ7_fill_d0a16 wsJ7_fill_d0a16) := goodIn_app (goodIn_of _ (by decide +kernel)) ggX5_renew_J7_fill_d0a16
theorem dX5_renew_0 : decode cX5_renew 0 = .ok (.aload_n 0, 1) := by decide +kernel
theorem dX5_renew_1 : decode cX5_renew 1 = .ok (.getfield 9, 3) := by decide +kernel
theorem dX5_renew_4 : decode cX5_renew 4 = .ok (.iload_n 1, 1) := by decide +kernel
theorem dX5_renew_5 : decode cX5_renew 5 = .ok (.iload_n 2, 1) := by decide +kernel
theorem dX5_renew_6 : decode cX5_renew 6 = .ok (.iastore, 1) := by decide +kernel
theorem dX5_renew_7 : decode cX5_renew 7 = .ok (.aload_n 0, 1) := by decide +kernel
theorem dX5_renew_8 : decode cX5_renew 8 = .ok (.getfield 17, 3) := by decide +kernel
theorem dX5_renew_11 : decode cX5_renew 11 = .ok (.iload_n 1, 1) := by decide +kernel
theorem dX5_renew_12 : decode cX5_renew 12 = .ok (.aaload, 1) := by decide +kernel
theorem dX5_renew_13 : decode cX5_renew 13 = .ok (.lconst 0, 1) := by decide +kernel
theorem dX5_renew_14 : decode cX5_renew 14 = .ok (.invokestatic 26, 3) := by decide +kernel
theorem dX5_renew_17 : decode cX5_renew 17 = .ok (.return_, 1) := by decide +kernel
theorem dX6_init_0 : decode cX6_init 0 = .ok (.aload_n 0, 1) := by decide +kernel
theorem dX6_init_1 : decode cX6_init 1 = .ok (.invokespecial 1, 3) := by decide +kernel
theorem dX6_init_4 : decode cX6_init 4 = .ok (.aload_n 0, 1) := by decide +kernel
theorem dX6_init_5 : decode cX6_init 5 = .ok (.iconst 0, 1) := by decide +kernel
theorem dX6_init_6 : decode cX6_init 6 = .ok (.putfield 7, 3) := by decide +kernel
theorem dX6_init_9 : decode cX6_init 9 = .ok (.aload_n 0, 1) := by decide +kernel
theorem dX6_init_10 : decode cX6_init 10 = .ok (.sipush 202, 3) := by decide +kernel
theorem dX6_init_13 : decode cX6_init 13 = .ok (.newarray .char, 2) := by decide +kernel
theorem dX6_init_15 : decode cX6_init 15 = .ok (.putfield 13, 3) := by decide +kernel
theorem dX6_init_18 : decode cX6_init 18 = .ok (.return_, 1) := by decide +kernel
theorem dX6_clear_0 : decode cX6_clear 0 = .ok (.aload_n 0, 1) := by decide +kernel
theorem dX6_clear_1 : decode cX6_clear 1 = .ok (.iconst 0, 1) := by decide +kernel
theorem dX6_clear_2 : decode cX6_clear 2 = .ok (.putfield 7, 3) := by decide +kernel
theorem dX6_clear_5 : decode cX6_clear 5 = .ok (.return_, 1) := by decide +kernel
theorem dX6_putSign_0 : decode cX6_putSign 0 = .ok (.aload_n 0, 1) := by decide +kernel
theorem dX6_putSign_1 : decode cX6_putSign 1 = .ok (.getfield 7, 3) := by decide +kernel
theorem dX6_putSign_4 : decode cX6_putSign 4 = .ok (.sipush 202, 3) := by decide +kernel
theorem dX6_putSign_7 : decode cX6_putSign 7 = .ok (.if_icmp .ge 23, 3) := by decide +kernel
theorem dX6_putSign_10 : decode cX6_putSign 10 = .ok (.aload_n 0, 1) := by decide +kernel
theorem dX6_putSign_11 : decode cX6_putSign 11 = .ok (.getfield 13, 3) := by decide +kernel
theorem dX6_putSign_14 : decode cX6_putSign 14 = .ok (.aload_n 0, 1) := by decide +kernel
theorem dX6_putSign_15 : decode cX6_putSign 15 = .ok (.getfield 7, 3) := by decide +kernel
theorem dX6_putSign_18 : decode cX6_putSign 18 = .ok (.iload_n 1, 1) := by decide +kernel
theorem dX6_putSign_19 : decode cX6_putSign 19 = .ok (.castore, 1) := by decide +kernel
theorem dX6_putSign_20 : decode cX6_putSign 20 = .ok (.aload_n 0, 1) := by decide +kernel
theorem dX6_putSign_21 : decode cX6_putSign 21 = .ok (.dup, 1) := by decide +kernel
theorem dX6_putSign_22 : decode cX6_putSign 22 = .ok (.getfield 7, 3) := by decide +kernel
theorem dX6_putSign_25 : decode cX6_putSign 25 = .ok (.iconst 1, 1) := by decide +kernel
theorem dX6_putSign_26 : decode cX6_putSign 26 = .ok (.iadd, 1) := by decide +kernel
theorem dX6_putSign_27 : decode cX6_putSign 27 = .ok (.putfield 7, 3) := by decide +kernel
theorem dX6_putSign_30 : decode cX6_putSign 30 = .ok (.return_, 1) := by decide +kernel
set_option maxRecDepth 20000 in
theorem ggX6_putNumber_X6_putSign : GoodIn wsX6_putNumber wsX6_putSign := goodIn_r _ [5, 6, 7, 8, 9] (by decide +kernel) (by decide +kernel)
set_option maxRecDepth 20000 in
theorem gX6_putNumber_X6_putSign : GoodIn wsX6_putNumber (wsV RX6 17 RX6 yX6_putSign wsX6_putSign) := goodIn_app (goodIn_of _ (by decide +kernel)) ggX6_putNumber_X6_putSign
theorem dX6_putNumber_0 : decode cX6_putNumber 0 = .ok (.iload_n 1, 1) := by decide +kernel
theorem dX6_putNumber_1 : decode cX6_putNumber 1 = .ok (.bipush 10, 2) := by decide +kernel
theorem dX6_putNumber_3 : decode cX6_putNumber 3 = .ok (.if_icmp .lt 15, 3) := by decide +kernel
theorem dX6_putNumber_6 : decode cX6_putNumber 6 = .ok (.aload_n 0, 1) := by decide +kernel
theorem dX6_putNumber_7 : decode cX6_putNumber 7 = .ok (.bipush 48, 2) := by decide +kernel
theorem dX6_putNumber_9 : decode cX6_putNumber 9 = .ok (.iload_n 1, 1) := by decide +kernel
theorem dX6_putNumber_10 : decode cX6_putNumber 10 = .ok (.bipush 10, 2) := by decide +kernel
theorem dX6_putNumber_12 : decode cX6_putNumber 12 = .ok (.idiv, 1) := by decide +kernel
theorem dX6_putNumber_13 : decode cX6_putNumber 13 = .ok (.iadd, 1) := by decide +kernel
theorem dX6_putNumber_14 : decode cX6_putNumber 14 = .ok (.i2c, 1) := by decide +kernel
theorem dX6_putNumber_15 : decode cX6_putNumber 15 = .ok (.invokevirtual 17, 3) := by decide +kernel
theorem dX6_putNumber_18 : decode cX6_putNumber 18 = .ok (.aload_n 0, 1) := by decide +kernel
theorem dX6_putNumber_19 : decode cX6_putNumber 19 = .ok (.bipush 48, 2) := by decide +kernel
theorem dX6_putNumber_21 : decode cX6_putNumber 21 = .ok (.iload_n 1, 1) := by decide +kernel
theorem dX6_putNumber_22 : decode cX6_putNumber 22 = .ok (.bipush 10, 2) := by decide +kernel
theorem dX6_putNumber_24 : decode cX6_putNumber 24 = .ok (.irem, 1) := by decide +kernel
theorem dX6_putNumber_25 : decode cX6_putNumber 25 = .ok (.iadd, 1) := by decide +kernel
theorem dX6_putNumber_26 : decode cX6_putNumber 26 = .ok (.i2c, 1) := by decide +kernel
theorem dX6_putNumber_27 : decode cX6_putNumber 27 = .ok (.invokevirtual 17, 3) := by decide +kernel
theorem dX6_putNumber_30 : decode cX6_putNumber 30 = .ok (.return_, 1) := by decide +kernel
theorem dX7_init_0 : decode cX7_init 0 = .ok (.aload_n 0, 1) := by decide +kernel
theorem dX7_init_1 : decode cX7_init 1 = .ok (.invokespecial 3, 3) := by decide +kernel
theorem dX7_init_4 : decode cX7_init 4 = .ok (.aload_n 0, 1) := by decide +kernel
theorem dX7_init_5 : decode cX7_init 5 = .ok (.iconst 0, 1) := by decide +kernel
theorem dX7_init_6 : decode cX7_init 6 = .ok (.putfield 9, 3) := by decide +kernel
theorem dX7_init_9 : decode cX7_init 9 = .ok (.aload_n 0, 1) := by decide +kernel
theorem dX7_init_10 : decode cX7_init 10 = .ok (.sipush 496, 3) := by decide +kernel
theorem dX7_init_13 : decode cX7_init 13 = .ok (.newarray .int, 2) := by decide +kernel
theorem dX7_init_15 : decode cX7_init 15 = .ok (.putfield 15, 3) := by decide +kernel
theorem dX7_init_18 : decode cX7_init 18 = .ok (.aload_n 0, 1) := by decide +kernel
theorem dX7_init_19 : decode cX7_init 19 = .ok (.sipush 496, 3) := by decide +kernel
theorem dX7_init_22 : decode cX7_init 22 = .ok (.newarray .int, 2) := by decide +kernel
theorem dX7_init_24 : decode cX7_init 24 = .ok (.putfield 19, 3) := by decide +kernel
theorem dX7_init_27 : decode cX7_init 27 = .ok (.return_, 1) := by decide +kernel
theorem dX7_collect_0 : decode cX7_collect 0 = .ok (.aload_n 0, 1) := by decide +kernel
theorem dX7_collect_1 : decode cX7_collect 1 = .ok (.iconst 0, 1) := by decide +kernel
theorem dX7_collect_2 : decode cX7_collect 2 = .ok (.putfield 9, 3) := by decide +kernel
theorem dX7_collect_5 : decode cX7_collect 5 = .ok (.iconst 0, 1) := by decide +kernel
theorem dX7_collect_6 : decode cX7_collect 6 = .ok (.istore_n 2, 1) := by decide +kernel
theorem dX7_collect_7 : decode cX7_collect 7 = .ok (.iload_n 2, 1) := by decide +kernel
theorem dX7_collect_8 : decode cX7_collect 8 = .ok (.aload_n 1, 1) := by decide +kernel
theorem dX7_collect_9 : decode cX7_collect 9 = .ok (.getfield 22, 3) := by decide +kernel
theorem dX7_collect_12 : decode cX7_collect 12 = .ok (.if_icmp .ge 82, 3) := by decide +kernel
theorem dX7_collect_15 : decode cX7_collect 15 = .ok (.iload_n 2, 1) := by decide +kernel
theorem dX7_collect_16 : decode cX7_collect 16 = .ok (.iconst 1, 1) := by decide +kernel
theorem dX7_collect_17 : decode cX7_collect 17 = .ok (.iadd, 1) := by decide +kernel
theorem dX7_collect_18 : decode cX7_collect 18 = .ok (.istore_n 3, 1) := by decide +kernel
theorem dX7_collect_19 : decode cX7_collect 19 = .ok (.iload_n 3, 1) := by decide +kernel
theorem dX7_collect_20 : decode cX7_collect 20 = .ok (.aload_n 1, 1) := by decide +kernel
theorem dX7_collect_21 : decode cX7_collect 21 = .ok (.getfield 22, 3) := by decide +kernel
theorem dX7_collect_24 : decode cX7_collect 24 = .ok (.if_icmp .ge 64, 3) := by decide +kernel
theorem dX7_collect_27 : decode cX7_collect 27 = .ok (.aload_n 1, 1) := by decide +kernel
theorem dX7_collect_28 : decode cX7_collect 28 = .ok (.getfield 27, 3) := by decide +kernel
theorem dX7_collect_31 : decode cX7_collect 31 = .ok (.iload_n 2, 1) := by decide +kernel
theorem dX7_collect_32 : decode cX7_collect 32 = .ok (.iaload, 1) := by decide +kernel
theorem dX7_collect_33 : decode cX7_collect 33 = .ok (.aload_n 1, 1) := by decide +kernel
theorem dX7_collect_34 : decode cX7_collect 34 = .ok (.getfield 27, 3) := by decide +kernel
theorem dX7_collect_37 : decode cX7_collect 37 = .ok (.iload_n 3, 1) := by decide +kernel
theorem dX7_collect_38 : decode cX7_collect 38 = .ok (.iaload, 1) := by decide +kernel
theorem dX7_collect_39 : decode cX7_collect 39 = .ok (.if_icmp .ne 43, 3) := by decide +kernel
theorem dX7_collect_42 : decode cX7_collect 42 = .ok (.aload_n 0, 1) := by decide +kernel
theorem dX7_collect_43 : decode cX7_collect 43 = .ok (.getfield 9, 3) := by decide +kernel
theorem dX7_collect_46 : decode cX7_collect 46 = .ok (.sipush 496, 3) := by decide +kernel
theorem dX7_collect_49 : decode cX7_collect 49 = .ok (.if_icmp .ge 33, 3) := by decide +kernel
theorem dX7_collect_52 : decode cX7_collect 52 = .ok (.aload_n 0, 1) := by decide +kernel
theorem dX7_collect_53 : decode cX7_collect 53 = .ok (.getfield 15, 3) := by decide +kernel
theorem dX7_collect_56 : decode cX7_collect 56 = .ok (.aload_n 0, 1) := by decide +kernel
theorem dX7_collect_57 : decode cX7_collect 57 = .ok (.getfield 9, 3) := by decide +kernel
theorem dX7_collect_60 : decode cX7_collect 60 = .ok (.iload_n 2, 1) := by decide +kernel
theorem dX7_collect_61 : decode cX7_collect 61 = .ok (.iastore, 1) := by decide +kernel
theorem dX7_collect_62 : decode cX7_collect 62 = .ok (.aload_n 0, 1) := by decide +kernel
theorem dX7_collect_63 : decode cX7_collect 63 = .ok (.getfield 19, 3) := by decide +kernel
theorem dX7_collect_66 : decode cX7_collect 66 = .ok (.aload_n 0, 1) := by decide +kernel
theorem dX7_collect_67 : decode cX7_collect 67 = .ok (.getfield 9, 3) := by decide +kernel
theorem dX7_collect_70 : decode cX7_collect 70 = .ok (.iload_n 3, 1) := by decide +kernel
theorem dX7_collect_71 : decode cX7_collect 71 = .ok (.iastore, 1) := by decide +kernel
theorem dX7_collect_72 : decode cX7_collect 72 = .ok (.aload_n 0, 1) := by decide +kernel
theorem dX7_collect_73 : decode cX7_collect 73 = .ok (.dup, 1) := by decide +kernel
theorem dX7_collect_74 : decode cX7_collect 74 = .ok (.getfield 9, 3) := by decide +kernel
theorem dX7_collect_77 : decode cX7_collect 77 = .ok (.iconst 1, 1) := by decide +kernel
theorem dX7_collect_78 : decode cX7_collect 78 = .ok (.iadd, 1) := by decide +kernel
theorem dX7_collect_79 : decode cX7_collect 79 = .ok (.putfield 9, 3) := by decide +kernel
theorem dX7_collect_82 : decode cX7_collect 82 = .ok (.iinc 3 1, 3) := by decide +kernel
theorem dX7_collect_85 : decode cX7_collect 85 = .ok (.goto (-66), 3) := by decide +kernel
theorem dX7_collect_88 : decode cX7_collect 88 = .ok (.iinc 2 1, 3) := by decide +kernel
theorem dX7_collect_91 : decode cX7_collect 91 = .ok (.goto (-84), 3) := by decide +kernel
theorem dX7_collect_94 : decode cX7_collect 94 = .ok (.return_, 1) := by decide +kernel
theorem dX7_has_0 : decode cX7_has 0 = .ok (.iload_n 1, 1) := by decide +kernel
theorem dX7_has_1 : decode cX7_has 1 = .ok (.ifCond .lt 15, 3) := by decide +kernel
theorem dX7_has_4 : decode cX7_has 4 = .ok (.iload_n 1, 1) := by decide +kernel
theorem dX7_has_5 : decode cX7_has 5 = .ok (.aload_n 0, 1) := by decide +kernel
theorem dX7_has_6 : decode cX7_has 6 = .ok (.getfield 9, 3) := by decide +kernel
theorem dX7_has_9 : decode cX7_has 9 = .ok (.if_icmp .ge 7, 3) := by decide +kernel
theorem dX7_has_12 : decode cX7_has 12 = .ok (.iconst 1, 1) := by decide +kernel
theorem dX7_has_13 : decode cX7_has 13 = .ok (.goto 4, 3) := by decide +kernel
theorem dX7_has_16 : decode cX7_has 16 = .ok (.iconst 0, 1) := by decide +kernel
theorem dX7_has_17 : decode cX7_has 17 = .ok (.ireturn, 1) := by decide +kernel
set_option maxRecDepth 20000 in
theorem ggX7_decreases_X7_suitableEnds : GoodIn wsX7_decreases wsX7_suitableEnds := goodIn_r _ [6, 7, 8, 9, 10, 11, 12, 13, 14, 15, 16, 17, 18, 19, 23, 24, 25, 26, 27, 28, 29, 30] (by decide +kernel) (by decide +kernel)
set_option maxRecDepth 20000 in
theorem gX7_decreases_X7_suitableEnds : GoodIn wsX7_decreases (va_wsS RX7 33 yX7_suitableEnds wsX7_suitableEnds) := goodIn_app (goodIn_of _ (by decide +kernel)) ggX7_decreases_X7_suitableEnds
theorem dX7_decreases_0 : decode cX7_decreases 0 = .ok (.aload_n 0, 1) := by decide +kernel
theorem dX7_decreases_1 : decode cX7_decreases 1 = .ok (.getfield 15, 3) := by decide +kernel
theorem dX7_decreases_4 : decode cX7_decreases 4 = .ok (.iload_n 1, 1) := by decide +kernel
theorem dX7_decreases_5 : decode cX7_decreases 5 = .ok (.iaload, 1) := by decide +kernel
theorem dX7_decreases_6 : decode cX7_decreases 6 = .ok (.istore 4, 2) := by decide +kernel
theorem dX7_decreases_8 : decode cX7_decreases 8 = .ok (.aload_n 0, 1) := by decide +kernel
theorem dX7_decreases_9 : decode cX7_decreases 9 = .ok (.getfield 19, 3) := by decide +kernel
theorem dX7_decreases_12 : decode cX7_decreases 12 = .ok (.iload_n 1, 1) := by decide +kernel
theorem dX7_decreases_13 : decode cX7_decreases 13 = .ok (.iaload, 1) := by decide +kernel
theorem dX7_decreases_14 : decode cX7_decreases 14 = .ok (.istore 5, 2) := by decide +kernel
theorem dX7_decreases_16 : decode cX7_decreases 16 = .ok (.aload_n 2, 1) := by decide +kernel
theorem dX7_decreases_17 : decode cX7_decreases 17 = .ok (.getfield 30, 3) := by decide +kernel
theorem dX7_decreases_20 : decode cX7_decreases 20 = .ok (.iload 4, 2) := by decide +kernel
theorem dX7_decreases_22 : decode cX7_decreases 22 = .ok (.iaload, 1) := by decide +kernel
theorem dX7_decreases_23 : decode cX7_decreases 23 = .ok (.aload_n 2, 1) := by decide +kernel
theorem dX7_decreases_24 : decode cX7_decreases 24 = .ok (.getfield 30, 3) := by decide +kernel
theorem dX7_decreases_27 : decode cX7_decreases 27 = .ok (.iload 5, 2) := by decide +kernel
theorem dX7_decreases_29 : decode cX7_decreases 29 = .ok (.iaload, 1) := by decide +kernel
theorem dX7_decreases_30 : decode cX7_decreases 30 = .ok (.if_icmp .ne 5, 3) := by decide +kernel
theorem dX7_decreases_33 : decode cX7_decreases 33 = .ok (.iconst 1, 1) := by decide +kernel
theorem dX7_decreases_34 : decode cX7_decreases 34 = .ok (.ireturn, 1) := by decide +kernel
theorem dX7_decreases_35 : decode cX7_decreases 35 = .ok (.aload_n 2, 1) := by decide +kernel
theorem dX7_decreases_36 : decode cX7_decreases 36 = .ok (.aload_n 3, 1) := by decide +kernel
theorem dX7_decreases_37 : decode cX7_decreases 37 = .ok (.iload 4, 2) := by decide +kernel
theorem dX7_decreases_39 : decode cX7_decreases 39 = .ok (.iload 5, 2) := by decide +kernel
theorem dX7_decreases_41 : decode cX7_decreases 41 = .ok (.invokestatic 33, 3) := by decide +kernel
theorem dX7_decreases_44 : decode cX7_decreases 44 = .ok (.istore 6, 2) := by decide +kernel
theorem dX7_decreases_46 : decode cX7_decreases 46 = .ok (.aload_n 2, 1) := by decide +kernel
theorem dX7_decreases_47 : decode cX7_decreases 47 = .ok (.aload_n 3, 1) := by decide +kernel
theorem dX7_decreases_48 : decode cX7_decreases 48 = .ok (.iload 5, 2) := by decide +kernel
theorem dX7_decreases_50 : decode cX7_decreases 50 = .ok (.iload 4, 2) := by decide +kernel
theorem dX7_decreases_52 : decode cX7_decreases 52 = .ok (.invokestatic 33, 3) := by decide +kernel
theorem dX7_decreases_55 : decode cX7_decreases 55 = .ok (.istore 7, 2) := by decide +kernel
theorem dX7_decreases_57 : decode cX7_decreases 57 = .ok (.iload 6, 2) := by decide +kernel
theorem dX7_decreases_59 : decode cX7_decreases 59 = .ok (.iload 7, 2) := by decide +kernel
theorem dX7_decreases_61 : decode cX7_decreases 61 = .ok (.iand, 1) := by decide +kernel
theorem dX7_decreases_62 : decode cX7_decreases 62 = .ok (.ifCond .eq 7, 3) := by decide +kernel
theorem dX7_decreases_65 : decode cX7_decreases 65 = .ok (.iconst 1, 1) := by decide +kernel
theorem dX7_decreases_66 : decode cX7_decreases 66 = .ok (.goto 4, 3) := by decide +kernel
theorem dX7_decreases_69 : decode cX7_decreases 69 = .ok (.iconst 0, 1) := by decide +kernel
theorem dX7_decreases_70 : decode cX7_decreases 70 = .ok (.ireturn, 1) := by decide +kernel
set_option maxRecDepth 20000 in
theorem ggX7_firstFailing_X7_decreases : GoodIn wsX7_firstFailing wsX7_decreases := goodIn_r _ [6, 7, 8, 9, 10, 5, 11, 12, 13, 14, 15, 16, 17, 18, 19, 20, 21, 22, 23, 24, 25, 26, 27, 28, 29, 30, 31, 32, 33, 34, 35] (by decide +kernel) (by decide +kernel)
set_option maxRecDepth 20000 in
theorem gX7_firstFailing_X7_decreases : GoodIn wsX7_firstFailing (wsV RX7 37 RX7 yX7_decreases wsX7_decreases) := goodIn_app (goodIn_of _ (by decide +kernel)) ggX7_firstFailing_X7_decreases
theorem dX7_firstFailing_0 : decode cX7_firstFailing 0 = .ok (.iconst 0, 1) := by decide +kernel
theorem dX7_firstFailing_1 : decode cX7_firstFailing 1 = .ok (.istore_n 3, 1) := by decide +kernel
theorem dX7_firstFailing_2 : decode cX7_firstFailing 2 = .ok (.iload_n 3, 1) := by decide +kernel
theorem dX7_firstFailing_3 : decode cX7_firstFailing 3 = .ok (.aload_n 0, 1) := by decide +kernel
theorem dX7_firstFailing_4 : decode cX7_firstFailing 4 = .ok (.getfield 9, 3) := by decide +kernel
theorem dX7_firstFailing_7 : decode cX7_firstFailing 7 = .ok (.if_icmp .ge 21, 3) := by decide +kernel
theorem dX7_firstFailing_10 : decode cX7_firstFailing 10 = .ok (.aload_n 0, 1) := by decide +kernel
theorem dX7_firstFailing_11 : decode cX7_firstFailing 11 = .ok (.iload_n 3, 1) := by decide +kernel
theorem dX7_firstFailing_12 : decode cX7_firstFailing 12 = .ok (.aload_n 1, 1) := by decide +kernel
theorem dX7_firstFailing_13 : decode cX7_firstFailing 13 = .ok (.aload_n 2, 1) := by decide +kernel
theorem dX7_firstFailing_14 : decode cX7_firstFailing 14 = .ok (.invokevirtual 37, 3) := by decide +kernel
theorem dX7_firstFailing_17 : decode cX7_firstFailing 17 = .ok (.ifCond .ne 5, 3) := by decide +kernel
theorem dX7_firstFailing_20 : decode cX7_firstFailing 20 = .ok (.iload_n 3, 1) := by decide +kernel
theorem dX7_firstFailing_21 : decode cX7_firstFailing 21 = .ok (.ireturn, 1) := by decide +kernel
theorem dX7_firstFailing_22 : decode cX7_firstFailing 22 = .ok (.iinc 3 1, 3) := by decide +kernel
theorem dX7_firstFailing_25 : decode cX7_firstFailing 25 = .ok (.goto (-23), 3) := by decide +kernel
theorem dX7_firstFailing_28 : decode cX7_firstFailing 28 = .ok (.bipush (-2), 2) := by decide +kernel
theorem dX7_firstFailing_30 : decode cX7_firstFailing 30 = .ok (.ireturn, 1) := by decide +kernel
set_option maxRecDepth 20000 in
theorem ggX7_suitableEnds_X3_closure : GoodIn wsX7_suitableEnds wsX3_closure := goodIn_r _ [4, 5, 6, 7, 8, 2, 9, 10, 11, 12, 13, 14, 15, 16, 17, 18, 19] (by decide +kernel) (by decide +kernel)
set_option maxRecDepth 20000 in
theorem gX7_suitableEnds_X3_closure_n49 : GoodIn wsX7_suitableEnds (wsX3_closure) := ggX7_suitableEnds_X3_closure
set_option maxRecDepth 20000 in
theorem ggX7_suitableEnds_X3_successors : GoodIn wsX7_suitableEnds wsX3_successors := goodIn_r _ [9, 10, 11, 12, 13, 14, 15, 16, 17, 18, 19] (by decide +kernel) (by decide +kernel)
set_option maxRecDepth 20000 in
theorem gX7_suitableEnds_X3_successors_n53 : GoodIn wsX7_suitableEnds (wsX3_successors) := ggX7_suitableEnds_X3_successors
theorem dX7_suitableEnds_0 : decode cX7_suitableEnds 0 = .ok (.aload_n 0, 1) := by decide +kernel
theorem dX7_suitableEnds_1 : decode cX7_suitableEnds 1 = .ok (.getfield 41, 3) := by decide +kernel
theorem dX7_suitableEnds_4 : decode cX7_suitableEnds 4 = .ok (.iload_n 2, 1) := by decide +kernel
theorem dX7_suitableEnds_5 : decode cX7_suitableEnds 5 = .ok (.iaload, 1) := by decide +kernel
theorem dX7_suitableEnds_6 : decode cX7_suitableEnds 6 = .ok (.istore 4, 2) := by decide +kernel
theorem dX7_suitableEnds_8 : decode cX7_suitableEnds 8 = .ok (.aload_n 0, 1) := by decide +kernel
theorem dX7_suitableEnds_9 : decode cX7_suitableEnds 9 = .ok (.getfield 41, 3) := by decide +kernel
theorem dX7_suitableEnds_12 : decode cX7_suitableEnds 12 = .ok (.iload_n 3, 1) := by decide +kernel
theorem dX7_suitableEnds_13 : decode cX7_suitableEnds 13 = .ok (.iaload, 1) := by decide +kernel
theorem dX7_suitableEnds_14 : decode cX7_suitableEnds 14 = .ok (.istore 5, 2) := by decide +kernel
theorem dX7_suitableEnds_16 : decode cX7_suitableEnds 16 = .ok (.aload_n 0, 1) := by decide +kernel
theorem dX7_suitableEnds_17 : decode cX7_suitableEnds 17 = .ok (.iconst 1, 1) := by decide +kernel
theorem dX7_suitableEnds_18 : decode cX7_suitableEnds 18 = .ok (.aload_n 0, 1) := by decide +kernel
theorem dX7_suitableEnds_19 : decode cX7_suitableEnds 19 = .ok (.getfield 30, 3) := by decide +kernel
theorem dX7_suitableEnds_22 : decode cX7_suitableEnds 22 = .ok (.iload_n 2, 1) := by decide +kernel
theorem dX7_suitableEnds_23 : decode cX7_suitableEnds 23 = .ok (.iaload, 1) := by decide +kernel
theorem dX7_suitableEnds_24 : decode cX7_suitableEnds 24 = .ok (.ishl, 1) := by decide +kernel
theorem dX7_suitableEnds_25 : decode cX7_suitableEnds 25 = .ok (.aload_n 1, 1) := by decide +kernel
theorem dX7_suitableEnds_26 : decode cX7_suitableEnds 26 = .ok (.getfield 44, 3) := by decide +kernel
theorem dX7_suitableEnds_29 : decode cX7_suitableEnds 29 = .ok (.iload 4, 2) := by decide +kernel
theorem dX7_suitableEnds_31 : decode cX7_suitableEnds 31 = .ok (.iaload, 1) := by decide +kernel
theorem dX7_suitableEnds_32 : decode cX7_suitableEnds 32 = .ok (.invokevirtual 49, 3) := by decide +kernel
theorem dX7_suitableEnds_35 : decode cX7_suitableEnds 35 = .ok (.istore 6, 2) := by decide +kernel
theorem dX7_suitableEnds_37 : decode cX7_suitableEnds 37 = .ok (.iload 6, 2) := by decide +kernel
theorem dX7_suitableEnds_39 : decode cX7_suitableEnds 39 = .ok (.aload_n 0, 1) := by decide +kernel
theorem dX7_suitableEnds_40 : decode cX7_suitableEnds 40 = .ok (.iload 6, 2) := by decide +kernel
theorem dX7_suitableEnds_42 : decode cX7_suitableEnds 42 = .ok (.iconst 1, 1) := by decide +kernel
theorem dX7_suitableEnds_43 : decode cX7_suitableEnds 43 = .ok (.iload 5, 2) := by decide +kernel
theorem dX7_suitableEnds_45 : decode cX7_suitableEnds 45 = .ok (.ishl, 1) := by decide +kernel
theorem dX7_suitableEnds_46 : decode cX7_suitableEnds 46 = .ok (.invokevirtual 53, 3) := by decide +kernel
theorem dX7_suitableEnds_49 : decode cX7_suitableEnds 49 = .ok (.ior, 1) := by decide +kernel
theorem dX7_suitableEnds_50 : decode cX7_suitableEnds 50 = .ok (.istore 6, 2) := by decide +kernel
theorem dX7_suitableEnds_52 : decode cX7_suitableEnds 52 = .ok (.aload_n 0, 1) := by decide +kernel
theorem dX7_suitableEnds_53 : decode cX7_suitableEnds 53 = .ok (.iload 6, 2) := by decide +kernel
theorem dX7_suitableEnds_55 : decode cX7_suitableEnds 55 = .ok (.aload_n 1, 1) := by decide +kernel
theorem dX7_suitableEnds_56 : decode cX7_suitableEnds 56 = .ok (.getfield 44, 3) := by decide +kernel
theorem dX7_suitableEnds_59 : decode cX7_suitableEnds 59 = .ok (.iload 4, 2) := by decide +kernel
theorem dX7_suitableEnds_61 : decode cX7_suitableEnds 61 = .ok (.iaload, 1) := by decide +kernel
theorem dX7_suitableEnds_62 : decode cX7_suitableEnds 62 = .ok (.aload_n 1, 1) := by decide +kernel
theorem dX7_suitableEnds_63 : decode cX7_suitableEnds 63 = .ok (.getfield 44, 3) := by decide +kernel
theorem dX7_suitableEnds_66 : decode cX7_suitableEnds 66 = .ok (.iload 5, 2) := by decide +kernel
theorem dX7_suitableEnds_68 : decode cX7_suitableEnds 68 = .ok (.iaload, 1) := by decide +kernel
theorem dX7_suitableEnds_69 : decode cX7_suitableEnds 69 = .ok (.ior, 1) := by decide +kernel
theorem dX7_suitableEnds_70 : decode cX7_suitableEnds 70 = .ok (.invokevirtual 49, 3) := by decide +kernel
theorem dX7_suitableEnds_73 : decode cX7_suitableEnds 73 = .ok (.ireturn, 1) := by decide +kernel
theorem dX8_init_0 : decode cX8_init 0 = .ok (.aload_n 0, 1) := by decide +kernel
theorem dX8_init_1 : decode cX8_init 1 = .ok (.invokespecial 3, 3) := by decide +kernel
theorem dX8_init_4 : decode cX8_init 4 = .ok (.aload_n 0, 1) := by decide +kernel
theorem dX8_init_5 : decode cX8_init 5 = .ok (.iconst 0, 1) := by decide +kernel
theorem dX8_init_6 : decode cX8_init 6 = .ok (.putfield 9, 3) := by decide +kernel
theorem dX8_init_9 : decode cX8_init 9 = .ok (.aload_n 0, 1) := by decide +kernel
theorem dX8_init_10 : decode cX8_init 10 = .ok (.bipush 6, 2) := by decide +kernel
theorem dX8_init_12 : decode cX8_init 12 = .ok (.newarray .int, 2) := by decide +kernel
theorem dX8_init_14 : decode cX8_init 14 = .ok (.putfield 15, 3) := by decide +kernel
theorem dX8_init_17 : decode cX8_init 17 = .ok (.aload_n 0, 1) := by decide +kernel
theorem dX8_init_18 : decode cX8_init 18 = .ok (.bipush 6, 2) := by decide +kernel
theorem dX8_init_20 : decode cX8_init 20 = .ok (.newarray .int, 2) := by decide +kernel
theorem dX8_init_22 : decode cX8_init 22 = .ok (.putfield 19, 3) := by decide +kernel
theorem dX8_init_25 : decode cX8_init 25 = .ok (.return_, 1) := by decide +kernel
theorem dX8_append_0 : decode cX8_append 0 = .ok (.aload_n 0, 1) := by decide +kernel
theorem dX8_append_1 : decode cX8_append 1 = .ok (.getfield 9, 3) := by decide +kernel
theorem dX8_append_4 : decode cX8_append 4 = .ok (.bipush 6, 2) := by decide +kernel
theorem dX8_append_6 : decode cX8_append 6 = .ok (.if_icmp .lt 6, 3) := by decide +kernel
theorem dX8_append_9 : decode cX8_append 9 = .ok (.bipush (-3), 2) := by decide +kernel
theorem dX8_append_11 : decode cX8_append 11 = .ok (.ireturn, 1) := by decide +kernel
theorem dX8_append_12 : decode cX8_append 12 = .ok (.aload_n 0, 1) := by decide +kernel
theorem dX8_append_13 : decode cX8_append 13 = .ok (.getfield 15, 3) := by decide +kernel
theorem dX8_append_16 : decode cX8_append 16 = .ok (.aload_n 0, 1) := by decide +kernel
theorem dX8_append_17 : decode cX8_append 17 = .ok (.getfield 9, 3) := by decide +kernel
theorem dX8_append_20 : decode cX8_append 20 = .ok (.iload_n 1, 1) := by decide +kernel
theorem dX8_append_21 : decode cX8_append 21 = .ok (.iastore, 1) := by decide +kernel
theorem dX8_append_22 : decode cX8_append 22 = .ok (.aload_n 0, 1) := by decide +kernel
theorem dX8_append_23 : decode cX8_append 23 = .ok (.getfield 19, 3) := by decide +kernel
theorem dX8_append_26 : decode cX8_append 26 = .ok (.aload_n 0, 1) := by decide +kernel
theorem dX8_append_27 : decode cX8_append 27 = .ok (.getfield 9, 3) := by decide +kernel
theorem dX8_append_30 : decode cX8_append 30 = .ok (.iload_n 2, 1) := by decide +kernel
theorem dX8_append_31 : decode cX8_append 31 = .ok (.iastore, 1) := by decide +kernel
theorem dX8_append_32 : decode cX8_append 32 = .ok (.aload_n 0, 1) := by decide +kernel
theorem dX8_append_33 : decode cX8_append 33 = .ok (.dup, 1) := by decide +kernel
theorem dX8_append_34 : decode cX8_append 34 = .ok (.getfield 9, 3) := by decide +kernel
theorem dX8_append_37 : decode cX8_append 37 = .ok (.iconst 1, 1) := by decide +kernel
theorem dX8_append_38 : decode cX8_append 38 = .ok (.iadd, 1) := by decide +kernel
theorem dX8_append_39 : decode cX8_append 39 = .ok (.putfield 9, 3) := by decide +kernel
theorem dX8_append_42 : decode cX8_append 42 = .ok (.aload_n 0, 1) := by decide +kernel
theorem dX8_append_43 : decode cX8_append 43 = .ok (.getfield 9, 3) := by decide +kernel
theorem dX8_append_46 : decode cX8_append 46 = .ok (.iconst 1, 1) := by decide +kernel
theorem dX8_append_47 : decode cX8_append 47 = .ok (.isub, 1) := by decide +kernel
theorem dX8_append_48 : decode cX8_append 48 = .ok (.ireturn, 1) := by decide +kernel
theorem dX8_copyFrom_0 : decode cX8_copyFrom 0 = .ok (.aload_n 0, 1) := by decide +kernel
theorem dX8_copyFrom_1 : decode cX8_copyFrom 1 = .ok (.aload_n 1, 1) := by decide +kernel
theorem dX8_copyFrom_2 : decode cX8_copyFrom 2 = .ok (.getfield 9, 3) := by decide +kernel
theorem dX8_copyFrom_5 : decode cX8_copyFrom 5 = .ok (.putfield 9, 3) := by decide +kernel
theorem dX8_copyFrom_8 : decode cX8_copyFrom 8 = .ok (.aload_n 1, 1) := by decide +kernel
theorem dX8_copyFrom_9 : decode cX8_copyFrom 9 = .ok (.getfield 15, 3) := by decide +kernel
theorem dX8_copyFrom_12 : decode cX8_copyFrom 12 = .ok (.iconst 0, 1) := by decide +kernel
theorem dX8_copyFrom_13 : decode cX8_copyFrom 13 = .ok (.aload_n 0, 1) := by decide +kernel
theorem dX8_copyFrom_14 : decode cX8_copyFrom 14 = .ok (.getfield 15, 3) := by decide +kernel
theorem dX8_copyFrom_17 : decode cX8_copyFrom 17 = .ok (.iconst 0, 1) := by decide +kernel
theorem dX8_copyFrom_18 : decode cX8_copyFrom 18 = .ok (.bipush 6, 2) := by decide +kernel
theorem dX8_copyFrom_20 : decode cX8_copyFrom 20 = .ok (.invokestatic 22, 3) := by decide +kernel
theorem dX8_copyFrom_23 : decode cX8_copyFrom 23 = .ok (.aload_n 1, 1) := by decide +kernel
theorem dX8_copyFrom_24 : decode cX8_copyFrom 24 = .ok (.getfield 19, 3) := by decide +kernel
theorem dX8_copyFrom_27 : decode cX8_copyFrom 27 = .ok (.iconst 0, 1) := by decide +kernel
theorem dX8_copyFrom_28 : decode cX8_copyFrom 28 = .ok (.aload_n 0, 1) := by decide +kernel
theorem dX8_copyFrom_29 : decode cX8_copyFrom 29 = .ok (.getfield 19, 3) := by decide +kernel
theorem dX8_copyFrom_32 : decode cX8_copyFrom 32 = .ok (.iconst 0, 1) := by decide +kernel
theorem dX8_copyFrom_33 : decode cX8_copyFrom 33 = .ok (.bipush 6, 2) := by decide +kernel
theorem dX8_copyFrom_35 : decode cX8_copyFrom 35 = .ok (.invokestatic 22, 3) := by decide +kernel
theorem dX8_copyFrom_38 : decode cX8_copyFrom 38 = .ok (.return_, 1) := by decide +kernel
theorem dX9_init_0 : decode cX9_init 0 = .ok (.aload_n 0, 1) := by decide +kernel
theorem dX9_init_1 : decode cX9_init 1 = .ok (.invokespecial 3, 3) := by decide +kernel
theorem dX9_init_4 : decode cX9_init 4 = .ok (.aload_n 0, 1) := by decide +kernel
theorem dX9_init_5 : decode cX9_init 5 = .ok (.iconst 0, 1) := by decide +kernel
theorem dX9_init_6 : decode cX9_init 6 = .ok (.putfield 9, 3) := by decide +kernel
theorem dX9_init_9 : decode cX9_init 9 = .ok (.aload_n 0, 1) := by decide +kernel
theorem dX9_init_10 : decode cX9_init 10 = .ok (.iconst 0, 1) := by decide +kernel
theorem dX9_init_11 : decode cX9_init 11 = .ok (.putfield 15, 3) := by decide +kernel
theorem dX9_init_14 : decode cX9_init 14 = .ok (.aload_n 0, 1) := by decide +kernel
theorem dX9_init_15 : decode cX9_init 15 = .ok (.iconst 0, 1) := by decide +kernel
theorem dX9_init_16 : decode cX9_init 16 = .ok (.putfield 18, 3) := by decide +kernel
theorem dX9_init_19 : decode cX9_init 19 = .ok (.aload_n 0, 1) := by decide +kernel
theorem dX9_init_20 : decode cX9_init 20 = .ok (.iconst 0, 1) := by decide +kernel
theorem dX9_init_21 : decode cX9_init 21 = .ok (.putfield 21, 3) := by decide +kernel
theorem dX9_init_24 : decode cX9_init 24 = .ok (.aload_n 0, 1) := by decide +kernel
theorem dX9_init_25 : decode cX9_init 25 = .ok (.bipush 32, 2) := by decide +kernel
theorem dX9_init_27 : decode cX9_init 27 = .ok (.newarray .int, 2) := by decide +kernel
theorem dX9_init_29 : decode cX9_init 29 = .ok (.putfield 24, 3) := by decide +kernel
theorem dX9_init_32 : decode cX9_init 32 = .ok (.aload_n 0, 1) := by decide +kernel
theorem dX9_init_33 : decode cX9_init 33 = .ok (.bipush 32, 2) := by decide +kernel
theorem dX9_init_35 : decode cX9_init 35 = .ok (.newarray .int, 2) := by decide +kernel
theorem dX9_init_37 : decode cX9_init 37 = .ok (.putfield 28, 3) := by decide +kernel
theorem dX9_init_40 : decode cX9_init 40 = .ok (.aload_n 0, 1) := by decide +kernel
theorem dX9_init_41 : decode cX9_init 41 = .ok (.bipush 32, 2) := by decide +kernel
theorem dX9_init_43 : decode cX9_init 43 = .ok (.newarray .int, 2) := by decide +kernel
theorem dX9_init_45 : decode cX9_init 45 = .ok (.putfield 31, 3) := by decide +kernel
theorem dX9_init_48 : decode cX9_init 48 = .ok (.aload_n 0, 1) := by decide +kernel
theorem dX9_init_49 : decode cX9_init 49 = .ok (.bipush 32, 2) := by decide +kernel
theorem dX9_init_51 : decode cX9_init 51 = .ok (.newarray .int, 2) := by decide +kernel
theorem dX9_init_53 : decode cX9_init 53 = .ok (.putfield 34, 3) := by decide +kernel
theorem dX9_init_56 : decode cX9_init 56 = .ok (.aload_n 0, 1) := by decide +kernel
theorem dX9_init_57 : decode cX9_init 57 = .ok (.bipush 32, 2) := by decide +kernel
theorem dX9_init_59 : decode cX9_init 59 = .ok (.newarray .int, 2) := by decide +kernel
theorem dX9_init_61 : decode cX9_init 61 = .ok (.putfield 37, 3) := by decide +kernel
theorem dX9_init_64 : decode cX9_init 64 = .ok (.aload_n 0, 1) := by decide +kernel
theorem dX9_init_65 : decode cX9_init 65 = .ok (.bipush 16, 2) := by decide +kernel
theorem dX9_init_67 : decode cX9_init 67 = .ok (.newarray .int, 2) := by decide +kernel
theorem dX9_init_69 : decode cX9_init 69 = .ok (.putfield 40, 3) := by decide +kernel
theorem dX9_init_72 : decode cX9_init 72 = .ok (.return_, 1) := by decide +kernel
set_option maxRecDepth 20000 in
theorem ggX9_search_J7_fill_53178 : GoodIn wsX9_search wsJ7_fill_53178 := goodIn_r _ [9] (by decide +kernel) (by decide +kernel)
set_option maxRecDepth 20000 in
theorem gX9_search_J7_fill_53178 : GoodIn wsX9_search (va_wsS RX9 53 yJ7_fill_53178 wsJ7_fill_53178) := goodIn_app (goodIn_of _ (by decide +kernel)) ggX9_search_J7_fill_53178
set_option maxRecDepth 20000 in
theorem ggX9_search_X9_meet : GoodIn wsX9_search wsX9_meet := goodIn_r _ [14, 5, 15, 16, 17, 18, 19, 4, 20, 21, 22, 13, 23, 41, 42, 43, 44, 45, 46, 47, 48, 49, 50] (by decide +kernel) (by decide +kernel)
set_option maxRecDepth 20000 in
theorem gX9_search_X9_meet : GoodIn wsX9_search (wsV RX9 62 RX9 yX9_meet wsX9_meet) := goodIn_app (goodIn_of _ (by decide +kernel)) ggX9_search_X9_meet
set_option maxRecDepth 20000 in
theorem ggX9_search_X9_leave : GoodIn wsX9_search wsX9_leave := goodIn_r _ [27, 15, 16, 28, 29, 30, 13, 31, 2, 3, 1, 32, 33, 34, 10, 11, 12, 14, 5, 17, 18, 19, 4, 20, 21, 22, 23, 35, 36, 37, 38, 39, 40, 41, 42, 43, 44, 45, 46, 47, 48, 49, 50] (by decide +kernel) (by decide +kernel)
set_option maxRecDepth 20000 in
theorem gX9_search_X9_leave : GoodIn wsX9_search (wsV RX9 66 RX9 yX9_leave wsX9_leave) := goodIn_app (goodIn_of _ (by decide +kernel)) ggX9_search_X9_leave
theorem dX9_search_0 : decode cX9_search 0 = .ok (.aload_n 1, 1) := by decide +kernel
theorem dX9_search_1 : decode cX9_search 1 = .ok (.getfield 43, 3) := by decide +kernel
theorem dX9_search_4 : decode cX9_search 4 = .ok (.iload_n 3, 1) := by decide +kernel
theorem dX9_search_5 : decode cX9_search 5 = .ok (.iaload, 1) := by decide +kernel
theorem dX9_search_6 : decode cX9_search 6 = .ok (.istore 5, 2) := by decide +kernel
theorem dX9_search_8 : decode cX9_search 8 = .ok (.aload_n 0, 1) := by decide +kernel
theorem dX9_search_9 : decode cX9_search 9 = .ok (.aload_n 1, 1) := by decide +kernel
theorem dX9_search_10 : decode cX9_search 10 = .ok (.getfield 43, 3) := by decide +kernel
theorem dX9_search_13 : decode cX9_search 13 = .ok (.iload 4, 2) := by decide +kernel
theorem dX9_search_15 : decode cX9_search 15 = .ok (.iaload, 1) := by decide +kernel
theorem dX9_search_16 : decode cX9_search 16 = .ok (.putfield 18, 3) := by decide +kernel
theorem dX9_search_19 : decode cX9_search 19 = .ok (.aload_n 0, 1) := by decide +kernel
theorem dX9_search_20 : decode cX9_search 20 = .ok (.aload_n 2, 1) := by decide +kernel
theorem dX9_search_21 : decode cX9_search 21 = .ok (.getfield 48, 3) := by decide +kernel
theorem dX9_search_24 : decode cX9_search 24 = .ok (.iload 5, 2) := by decide +kernel
theorem dX9_search_26 : decode cX9_search 26 = .ok (.iaload, 1) := by decide +kernel
theorem dX9_search_27 : decode cX9_search 27 = .ok (.putfield 9, 3) := by decide +kernel
theorem dX9_search_30 : decode cX9_search 30 = .ok (.aload_n 0, 1) := by decide +kernel
theorem dX9_search_31 : decode cX9_search 31 = .ok (.aload_n 0, 1) := by decide +kernel
theorem dX9_search_32 : decode cX9_search 32 = .ok (.getfield 9, 3) := by decide +kernel
theorem dX9_search_35 : decode cX9_search 35 = .ok (.aload_n 2, 1) := by decide +kernel
theorem dX9_search_36 : decode cX9_search 36 = .ok (.getfield 48, 3) := by decide +kernel
theorem dX9_search_39 : decode cX9_search 39 = .ok (.aload_n 0, 1) := by decide +kernel
theorem dX9_search_40 : decode cX9_search 40 = .ok (.getfield 18, 3) := by decide +kernel
theorem dX9_search_43 : decode cX9_search 43 = .ok (.iaload, 1) := by decide +kernel
theorem dX9_search_44 : decode cX9_search 44 = .ok (.ior, 1) := by decide +kernel
theorem dX9_search_45 : decode cX9_search 45 = .ok (.putfield 15, 3) := by decide +kernel
theorem dX9_search_48 : decode cX9_search 48 = .ok (.aload_n 0, 1) := by decide +kernel
theorem dX9_search_49 : decode cX9_search 49 = .ok (.getfield 40, 3) := by decide +kernel
theorem dX9_search_52 : decode cX9_search 52 = .ok (.bipush (-2), 2) := by decide +kernel
theorem dX9_search_54 : decode cX9_search 54 = .ok (.invokestatic 53, 3) := by decide +kernel
theorem dX9_search_57 : decode cX9_search 57 = .ok (.aload_n 0, 1) := by decide +kernel
theorem dX9_search_58 : decode cX9_search 58 = .ok (.iconst 0, 1) := by decide +kernel
theorem dX9_search_59 : decode cX9_search 59 = .ok (.putfield 21, 3) := by decide +kernel
theorem dX9_search_62 : decode cX9_search 62 = .ok (.aload_n 0, 1) := by decide +kernel
theorem dX9_search_63 : decode cX9_search 63 = .ok (.aload_n 1, 1) := by decide +kernel
theorem dX9_search_64 : decode cX9_search 64 = .ok (.getfield 59, 3) := by decide +kernel
theorem dX9_search_67 : decode cX9_search 67 = .ok (.iload_n 3, 1) := by decide +kernel
theorem dX9_search_68 : decode cX9_search 68 = .ok (.iaload, 1) := by decide +kernel
theorem dX9_search_69 : decode cX9_search 69 = .ok (.iconst 0, 1) := by decide +kernel
theorem dX9_search_70 : decode cX9_search 70 = .ok (.bipush (-2), 2) := by decide +kernel
theorem dX9_search_72 : decode cX9_search 72 = .ok (.bipush (-2), 2) := by decide +kernel
theorem dX9_search_74 : decode cX9_search 74 = .ok (.invokevirtual 62, 3) := by decide +kernel
theorem dX9_search_77 : decode cX9_search 77 = .ok (.iconst 0, 1) := by decide +kernel
theorem dX9_search_78 : decode cX9_search 78 = .ok (.istore 6, 2) := by decide +kernel
theorem dX9_search_80 : decode cX9_search 80 = .ok (.iload 6, 2) := by decide +kernel
theorem dX9_search_82 : decode cX9_search 82 = .ok (.bipush 32, 2) := by decide +kernel
theorem dX9_search_84 : decode cX9_search 84 = .ok (.if_icmp .ge 25, 3) := by decide +kernel
theorem dX9_search_87 : decode cX9_search 87 = .ok (.iload 6, 2) := by decide +kernel
theorem dX9_search_89 : decode cX9_search 89 = .ok (.aload_n 0, 1) := by decide +kernel
theorem dX9_search_90 : decode cX9_search 90 = .ok (.getfield 21, 3) := by decide +kernel
theorem dX9_search_93 : decode cX9_search 93 = .ok (.if_icmp .ge 16, 3) := by decide +kernel
theorem dX9_search_96 : decode cX9_search 96 = .ok (.aload_n 0, 1) := by decide +kernel
theorem dX9_search_97 : decode cX9_search 97 = .ok (.aload_n 1, 1) := by decide +kernel
theorem dX9_search_98 : decode cX9_search 98 = .ok (.iload 6, 2) := by decide +kernel
theorem dX9_search_100 : decode cX9_search 100 = .ok (.invokevirtual 66, 3) := by decide +kernel
theorem dX9_search_103 : decode cX9_search 103 = .ok (.iinc 6 1, 3) := by decide +kernel
theorem dX9_search_106 : decode cX9_search 106 = .ok (.goto (-26), 3) := by decide +kernel
theorem dX9_search_109 : decode cX9_search 109 = .ok (.return_, 1) := by decide +kernel
set_option maxRecDepth 20000 in
theorem ggX9_leave_X9_partAfter : GoodIn wsX9_leave wsX9_partAfter := goodIn_r _ [7, 8, 9, 10, 11, 12, 13, 33, 34, 35, 36, 37, 38, 39, 40, 41, 42] (by decide +kernel) (by decide +kernel)
set_option maxRecDepth 20000 in
theorem gX9_leave_X9_partAfter : GoodIn wsX9_leave (wsV RX9 76 RX9 yX9_partAfter wsX9_partAfter) := goodIn_app (goodIn_of _ (by decide +kernel)) ggX9_leave_X9_partAfter
set_option maxRecDepth 20000 in
theorem ggX9_leave_X9_meet : GoodIn wsX9_leave wsX9_meet := goodIn_r _ [17, 18, 1, 2, 19, 20, 21, 22, 23, 24, 25, 6, 26, 33, 34, 35, 36, 37, 38, 39, 40, 41, 42] (by decide +kernel) (by decide +kernel)
set_option maxRecDepth 20000 in
theorem gX9_leave_X9_meet : GoodIn wsX9_leave (wsV RX9 62 RX9 yX9_meet wsX9_meet) := goodIn_app (goodIn_of _ (by decide +kernel)) ggX9_leave_X9_meet
theorem dX9_leave_0 : decode cX9_leave 0 = .ok (.iconst 0, 1) := by decide +kernel
theorem dX9_leave_1 : decode cX9_leave 1 = .ok (.istore_n 3, 1) := by decide +kernel
theorem dX9_leave_2 : decode cX9_leave 2 = .ok (.iload_n 3, 1) := by decide +kernel
theorem dX9_leave_3 : decode cX9_leave 3 = .ok (.aload_n 1, 1) := by decide +kernel
theorem dX9_leave_4 : decode cX9_leave 4 = .ok (.getfield 70, 3) := by decide +kernel
theorem dX9_leave_7 : decode cX9_leave 7 = .ok (.if_icmp .ge 62, 3) := by decide +kernel
theorem dX9_leave_10 : decode cX9_leave 10 = .ok (.aload_n 1, 1) := by decide +kernel
theorem dX9_leave_11 : decode cX9_leave 11 = .ok (.getfield 73, 3) := by decide +kernel
theorem dX9_leave_14 : decode cX9_leave 14 = .ok (.iload_n 3, 1) := by decide +kernel
theorem dX9_leave_15 : decode cX9_leave 15 = .ok (.iaload, 1) := by decide +kernel
theorem dX9_leave_16 : decode cX9_leave 16 = .ok (.aload_n 0, 1) := by decide +kernel
theorem dX9_leave_17 : decode cX9_leave 17 = .ok (.getfield 24, 3) := by decide +kernel
theorem dX9_leave_20 : decode cX9_leave 20 = .ok (.iload_n 2, 1) := by decide +kernel
theorem dX9_leave_21 : decode cX9_leave 21 = .ok (.iaload, 1) := by decide +kernel
theorem dX9_leave_22 : decode cX9_leave 22 = .ok (.if_icmp .ne 41, 3) := by decide +kernel
theorem dX9_leave_25 : decode cX9_leave 25 = .ok (.aload_n 0, 1) := by decide +kernel
theorem dX9_leave_26 : decode cX9_leave 26 = .ok (.aload_n 0, 1) := by decide +kernel
theorem dX9_leave_27 : decode cX9_leave 27 = .ok (.getfield 28, 3) := by decide +kernel
theorem dX9_leave_30 : decode cX9_leave 30 = .ok (.iload_n 2, 1) := by decide +kernel
theorem dX9_leave_31 : decode cX9_leave 31 = .ok (.iaload, 1) := by decide +kernel
theorem dX9_leave_32 : decode cX9_leave 32 = .ok (.aload_n 1, 1) := by decide +kernel
theorem dX9_leave_33 : decode cX9_leave 33 = .ok (.getfield 43, 3) := by decide +kernel
theorem dX9_leave_36 : decode cX9_leave 36 = .ok (.iload_n 3, 1) := by decide +kernel
theorem dX9_leave_37 : decode cX9_leave 37 = .ok (.iaload, 1) := by decide +kernel
theorem dX9_leave_38 : decode cX9_leave 38 = .ok (.invokevirtual 76, 3) := by decide +kernel
theorem dX9_leave_41 : decode cX9_leave 41 = .ok (.istore 4, 2) := by decide +kernel
theorem dX9_leave_43 : decode cX9_leave 43 = .ok (.iload 4, 2) := by decide +kernel
theorem dX9_leave_45 : decode cX9_leave 45 = .ok (.iconst (-1), 1) := by decide +kernel
theorem dX9_leave_46 : decode cX9_leave 46 = .ok (.if_icmp .eq 17, 3) := by decide +kernel
theorem dX9_leave_49 : decode cX9_leave 49 = .ok (.aload_n 0, 1) := by decide +kernel
theorem dX9_leave_50 : decode cX9_leave 50 = .ok (.aload_n 1, 1) := by decide +kernel
theorem dX9_leave_51 : decode cX9_leave 51 = .ok (.getfield 59, 3) := by decide +kernel
theorem dX9_leave_54 : decode cX9_leave 54 = .ok (.iload_n 3, 1) := by decide +kernel
theorem dX9_leave_55 : decode cX9_leave 55 = .ok (.iaload, 1) := by decide +kernel
theorem dX9_leave_56 : decode cX9_leave 56 = .ok (.iload 4, 2) := by decide +kernel
theorem dX9_leave_58 : decode cX9_leave 58 = .ok (.iload_n 2, 1) := by decide +kernel
theorem dX9_leave_59 : decode cX9_leave 59 = .ok (.iload_n 3, 1) := by decide +kernel
theorem dX9_leave_60 : decode cX9_leave 60 = .ok (.invokevirtual 62, 3) := by decide +kernel
theorem dX9_leave_63 : decode cX9_leave 63 = .ok (.iinc 3 1, 3) := by decide +kernel
theorem dX9_leave_66 : decode cX9_leave 66 = .ok (.goto (-64), 3) := by decide +kernel
theorem dX9_leave_69 : decode cX9_leave 69 = .ok (.return_, 1) := by decide +kernel
set_option maxRecDepth 20000 in
theorem ggX9_partAfter_X11_isIn : GoodIn wsX9_partAfter wsX11_isIn := goodIn_r _ [6] (by decide +kernel) (by decide +kernel)
set_option maxRecDepth 20000 in
theorem gX9_partAfter_X11_isIn_n80 : GoodIn wsX9_partAfter (wsX11_isIn) := ggX9_partAfter_X11_isIn
theorem dX9_partAfter_0 : decode cX9_partAfter 0 = .ok (.iload_n 1, 1) := by decide +kernel
theorem dX9_partAfter_1 : decode cX9_partAfter 1 = .ok (.ifCond .ne 16, 3) := by decide +kernel
theorem dX9_partAfter_4 : decode cX9_partAfter 4 = .ok (.aload_n 0, 1) := by decide +kernel
theorem dX9_partAfter_5 : decode cX9_partAfter 5 = .ok (.getfield 9, 3) := by decide +kernel
theorem dX9_partAfter_8 : decode cX9_partAfter 8 = .ok (.iload_n 2, 1) := by decide +kernel
theorem dX9_partAfter_9 : decode cX9_partAfter 9 = .ok (.invokestatic 80, 3) := by decide +kernel
theorem dX9_partAfter_12 : decode cX9_partAfter 12 = .ok (.ifCond .eq 5, 3) := by decide +kernel
theorem dX9_partAfter_15 : decode cX9_partAfter 15 = .ok (.iconst 0, 1) := by decide +kernel
theorem dX9_partAfter_16 : decode cX9_partAfter 16 = .ok (.ireturn, 1) := by decide +kernel
theorem dX9_partAfter_17 : decode cX9_partAfter 17 = .ok (.aload_n 0, 1) := by decide +kernel
theorem dX9_partAfter_18 : decode cX9_partAfter 18 = .ok (.getfield 15, 3) := by decide +kernel
theorem dX9_partAfter_21 : decode cX9_partAfter 21 = .ok (.iload_n 2, 1) := by decide +kernel
theorem dX9_partAfter_22 : decode cX9_partAfter 22 = .ok (.invokestatic 80, 3) := by decide +kernel
theorem dX9_partAfter_25 : decode cX9_partAfter 25 = .ok (.ifCond .ne 15, 3) := by decide +kernel
theorem dX9_partAfter_28 : decode cX9_partAfter 28 = .ok (.iload_n 1, 1) := by decide +kernel
theorem dX9_partAfter_29 : decode cX9_partAfter 29 = .ok (.ifCond .ne 13, 3) := by decide +kernel
theorem dX9_partAfter_32 : decode cX9_partAfter 32 = .ok (.iload_n 2, 1) := by decide +kernel
theorem dX9_partAfter_33 : decode cX9_partAfter 33 = .ok (.aload_n 0, 1) := by decide +kernel
theorem dX9_partAfter_34 : decode cX9_partAfter 34 = .ok (.getfield 18, 3) := by decide +kernel
theorem dX9_partAfter_37 : decode cX9_partAfter 37 = .ok (.if_icmp .ne 5, 3) := by decide +kernel
theorem dX9_partAfter_40 : decode cX9_partAfter 40 = .ok (.iconst 1, 1) := by decide +kernel
theorem dX9_partAfter_41 : decode cX9_partAfter 41 = .ok (.ireturn, 1) := by decide +kernel
theorem dX9_partAfter_42 : decode cX9_partAfter 42 = .ok (.iconst (-1), 1) := by decide +kernel
theorem dX9_partAfter_43 : decode cX9_partAfter 43 = .ok (.ireturn, 1) := by decide +kernel
set_option maxRecDepth 20000 in
theorem ggX9_meet_X9_isMet : GoodIn wsX9_meet wsX9_isMet := goodIn_r _ [12, 1, 2, 3, 13, 14, 15, 16, 17, 18, 19, 20, 21, 22] (by decide +kernel) (by decide +kernel)
set_option maxRecDepth 20000 in
theorem gX9_meet_X9_isMet : GoodIn wsX9_meet (wsV RX9 84 RX9 yX9_isMet wsX9_isMet) := goodIn_app (goodIn_of _ (by decide +kernel)) ggX9_meet_X9_isMet
theorem dX9_meet_0 : decode cX9_meet 0 = .ok (.aload_n 0, 1) := by decide +kernel
theorem dX9_meet_1 : decode cX9_meet 1 = .ok (.getfield 21, 3) := by decide +kernel
theorem dX9_meet_4 : decode cX9_meet 4 = .ok (.bipush 32, 2) := by decide +kernel
theorem dX9_meet_6 : decode cX9_meet 6 = .ok (.if_icmp .ge 12, 3) := by decide +kernel
theorem dX9_meet_9 : decode cX9_meet 9 = .ok (.aload_n 0, 1) := by decide +kernel
theorem dX9_meet_10 : decode cX9_meet 10 = .ok (.iload_n 1, 1) := by decide +kernel
theorem dX9_meet_11 : decode cX9_meet 11 = .ok (.iload_n 2, 1) := by decide +kernel
theorem dX9_meet_12 : decode cX9_meet 12 = .ok (.invokevirtual 84, 3) := by decide +kernel
theorem dX9_meet_15 : decode cX9_meet 15 = .ok (.ifCond .eq 4, 3) := by decide +kernel
theorem dX9_meet_18 : decode cX9_meet 18 = .ok (.return_, 1) := by decide +kernel
theorem dX9_meet_19 : decode cX9_meet 19 = .ok (.aload_n 0, 1) := by decide +kernel
theorem dX9_meet_20 : decode cX9_meet 20 = .ok (.getfield 24, 3) := by decide +kernel
theorem dX9_meet_23 : decode cX9_meet 23 = .ok (.aload_n 0, 1) := by decide +kernel
theorem dX9_meet_24 : decode cX9_meet 24 = .ok (.getfield 21, 3) := by decide +kernel
theorem dX9_meet_27 : decode cX9_meet 27 = .ok (.iload_n 1, 1) := by decide +kernel
theorem dX9_meet_28 : decode cX9_meet 28 = .ok (.iastore, 1) := by decide +kernel
theorem dX9_meet_29 : decode cX9_meet 29 = .ok (.aload_n 0, 1) := by decide +kernel
theorem dX9_meet_30 : decode cX9_meet 30 = .ok (.getfield 28, 3) := by decide +kernel
theorem dX9_meet_33 : decode cX9_meet 33 = .ok (.aload_n 0, 1) := by decide +kernel
theorem dX9_meet_34 : decode cX9_meet 34 = .ok (.getfield 21, 3) := by decide +kernel
theorem dX9_meet_37 : decode cX9_meet 37 = .ok (.iload_n 2, 1) := by decide +kernel
theorem dX9_meet_38 : decode cX9_meet 38 = .ok (.iastore, 1) := by decide +kernel
theorem dX9_meet_39 : decode cX9_meet 39 = .ok (.aload_n 0, 1) := by decide +kernel
theorem dX9_meet_40 : decode cX9_meet 40 = .ok (.getfield 31, 3) := by decide +kernel
theorem dX9_meet_43 : decode cX9_meet 43 = .ok (.aload_n 0, 1) := by decide +kernel
theorem dX9_meet_44 : decode cX9_meet 44 = .ok (.getfield 21, 3) := by decide +kernel
theorem dX9_meet_47 : decode cX9_meet 47 = .ok (.iload_n 3, 1) := by decide +kernel
theorem dX9_meet_48 : decode cX9_meet 48 = .ok (.bipush (-2), 2) := by decide +kernel
theorem dX9_meet_50 : decode cX9_meet 50 = .ok (.if_icmp .ne 7, 3) := by decide +kernel
theorem dX9_meet_53 : decode cX9_meet 53 = .ok (.iconst 0, 1) := by decide +kernel
theorem dX9_meet_54 : decode cX9_meet 54 = .ok (.goto 11, 3) := by decide +kernel
theorem dX9_meet_57 : decode cX9_meet 57 = .ok (.aload_n 0, 1) := by decide +kernel
theorem dX9_meet_58 : decode cX9_meet 58 = .ok (.getfield 31, 3) := by decide +kernel
theorem dX9_meet_61 : decode cX9_meet 61 = .ok (.iload_n 3, 1) := by decide +kernel
theorem dX9_meet_62 : decode cX9_meet 62 = .ok (.iaload, 1) := by decide +kernel
theorem dX9_meet_63 : decode cX9_meet 63 = .ok (.iconst 1, 1) := by decide +kernel
theorem dX9_meet_64 : decode cX9_meet 64 = .ok (.iadd, 1) := by decide +kernel
theorem dX9_meet_65 : decode cX9_meet 65 = .ok (.iastore, 1) := by decide +kernel
theorem dX9_meet_66 : decode cX9_meet 66 = .ok (.aload_n 0, 1) := by decide +kernel
theorem dX9_meet_67 : decode cX9_meet 67 = .ok (.getfield 34, 3) := by decide +kernel
theorem dX9_meet_70 : decode cX9_meet 70 = .ok (.aload_n 0, 1) := by decide +kernel
theorem dX9_meet_71 : decode cX9_meet 71 = .ok (.getfield 21, 3) := by decide +kernel
theorem dX9_meet_74 : decode cX9_meet 74 = .ok (.iload_n 3, 1) := by decide +kernel
theorem dX9_meet_75 : decode cX9_meet 75 = .ok (.iastore, 1) := by decide +kernel
theorem dX9_meet_76 : decode cX9_meet 76 = .ok (.aload_n 0, 1) := by decide +kernel
theorem dX9_meet_77 : decode cX9_meet 77 = .ok (.getfield 37, 3) := by decide +kernel
theorem dX9_meet_80 : decode cX9_meet 80 = .ok (.aload_n 0, 1) := by decide +kernel
theorem dX9_meet_81 : decode cX9_meet 81 = .ok (.getfield 21, 3) := by decide +kernel
theorem dX9_meet_84 : decode cX9_meet 84 = .ok (.iload 4, 2) := by decide +kernel
theorem dX9_meet_86 : decode cX9_meet 86 = .ok (.iastore, 1) := by decide +kernel
theorem dX9_meet_87 : decode cX9_meet 87 = .ok (.aload_n 0, 1) := by decide +kernel
theorem dX9_meet_88 : decode cX9_meet 88 = .ok (.getfield 40, 3) := by decide +kernel
theorem dX9_meet_91 : decode cX9_meet 91 = .ok (.iload_n 1, 1) := by decide +kernel
theorem dX9_meet_92 : decode cX9_meet 92 = .ok (.iaload, 1) := by decide +kernel
theorem dX9_meet_93 : decode cX9_meet 93 = .ok (.bipush (-2), 2) := by decide +kernel
theorem dX9_meet_95 : decode cX9_meet 95 = .ok (.if_icmp .ne 13, 3) := by decide +kernel
theorem dX9_meet_98 : decode cX9_meet 98 = .ok (.aload_n 0, 1) := by decide +kernel
theorem dX9_meet_99 : decode cX9_meet 99 = .ok (.getfield 40, 3) := by decide +kernel
theorem dX9_meet_102 : decode cX9_meet 102 = .ok (.iload_n 1, 1) := by decide +kernel
theorem dX9_meet_103 : decode cX9_meet 103 = .ok (.aload_n 0, 1) := by decide +kernel
theorem dX9_meet_104 : decode cX9_meet 104 = .ok (.getfield 21, 3) := by decide +kernel
theorem dX9_meet_107 : decode cX9_meet 107 = .ok (.iastore, 1) := by decide +kernel
theorem dX9_meet_108 : decode cX9_meet 108 = .ok (.aload_n 0, 1) := by decide +kernel
theorem dX9_meet_109 : decode cX9_meet 109 = .ok (.dup, 1) := by decide +kernel
theorem dX9_meet_110 : decode cX9_meet 110 = .ok (.getfield 21, 3) := by decide +kernel
theorem dX9_meet_113 : decode cX9_meet 113 = .ok (.iconst 1, 1) := by decide +kernel
theorem dX9_meet_114 : decode cX9_meet 114 = .ok (.iadd, 1) := by decide +kernel
theorem dX9_meet_115 : decode cX9_meet 115 = .ok (.putfield 21, 3) := by decide +kernel
theorem dX9_meet_118 : decode cX9_meet 118 = .ok (.return_, 1) := by decide +kernel
theorem dX9_isMet_0 : decode cX9_isMet 0 = .ok (.iconst 0, 1) := by decide +kernel
theorem dX9_isMet_1 : decode cX9_isMet 1 = .ok (.istore_n 3, 1) := by decide +kernel
theorem dX9_isMet_2 : decode cX9_isMet 2 = .ok (.iload_n 3, 1) := by decide +kernel
theorem dX9_isMet_3 : decode cX9_isMet 3 = .ok (.aload_n 0, 1) := by decide +kernel
theorem dX9_isMet_4 : decode cX9_isMet 4 = .ok (.getfield 21, 3) := by decide +kernel
theorem dX9_isMet_7 : decode cX9_isMet 7 = .ok (.if_icmp .ge 31, 3) := by decide +kernel
theorem dX9_isMet_10 : decode cX9_isMet 10 = .ok (.aload_n 0, 1) := by decide +kernel
theorem dX9_isMet_11 : decode cX9_isMet 11 = .ok (.getfield 24, 3) := by decide +kernel
theorem dX9_isMet_14 : decode cX9_isMet 14 = .ok (.iload_n 3, 1) := by decide +kernel
theorem dX9_isMet_15 : decode cX9_isMet 15 = .ok (.iaload, 1) := by decide +kernel
theorem dX9_isMet_16 : decode cX9_isMet 16 = .ok (.iload_n 1, 1) := by decide +kernel
theorem dX9_isMet_17 : decode cX9_isMet 17 = .ok (.if_icmp .ne 15, 3) := by decide +kernel
theorem dX9_isMet_20 : decode cX9_isMet 20 = .ok (.aload_n 0, 1) := by decide +kernel
theorem dX9_isMet_21 : decode cX9_isMet 21 = .ok (.getfield 28, 3) := by decide +kernel
theorem dX9_isMet_24 : decode cX9_isMet 24 = .ok (.iload_n 3, 1) := by decide +kernel
theorem dX9_isMet_25 : decode cX9_isMet 25 = .ok (.iaload, 1) := by decide +kernel
theorem dX9_isMet_26 : decode cX9_isMet 26 = .ok (.iload_n 2, 1) := by decide +kernel
theorem dX9_isMet_27 : decode cX9_isMet 27 = .ok (.if_icmp .ne 5, 3) := by decide +kernel
theorem dX9_isMet_30 : decode cX9_isMet 30 = .ok (.iconst 1, 1) := by decide +kernel
theorem dX9_isMet_31 : decode cX9_isMet 31 = .ok (.ireturn, 1) := by decide +kernel
theorem dX9_isMet_32 : decode cX9_isMet 32 = .ok (.iinc 3 1, 3) := by decide +kernel
theorem dX9_isMet_35 : decode cX9_isMet 35 = .ok (.goto (-33), 3) := by decide +kernel
theorem dX9_isMet_38 : decode cX9_isMet 38 = .ok (.iconst 0, 1) := by decide +kernel
theorem dX9_isMet_39 : decode cX9_isMet 39 = .ok (.ireturn, 1) := by decide +kernel
theorem dX9_reaches_0 : decode cX9_reaches 0 = .ok (.aload_n 0, 1) := by decide +kernel
theorem dX9_reaches_1 : decode cX9_reaches 1 = .ok (.getfield 40, 3) := by decide +kernel
theorem dX9_reaches_4 : decode cX9_reaches 4 = .ok (.iload_n 1, 1) := by decide +kernel
theorem dX9_reaches_5 : decode cX9_reaches 5 = .ok (.iaload, 1) := by decide +kernel
theorem dX9_reaches_6 : decode cX9_reaches 6 = .ok (.bipush (-2), 2) := by decide +kernel
theorem dX9_reaches_8 : decode cX9_reaches 8 = .ok (.if_icmp .eq 7, 3) := by decide +kernel
theorem dX9_reaches_11 : decode cX9_reaches 11 = .ok (.iconst 1, 1) := by decide +kernel
theorem dX9_reaches_12 : decode cX9_reaches 12 = .ok (.goto 4, 3) := by decide +kernel
theorem dX9_reaches_15 : decode cX9_reaches 15 = .ok (.iconst 0, 1) := by decide +kernel
theorem dX9_reaches_16 : decode cX9_reaches 16 = .ok (.ireturn, 1) := by decide +kernel
set_option maxRecDepth 20000 in
theorem ggX9_lengthTo_X9_reaches : GoodIn wsX9_lengthTo wsX9_reaches := goodIn_r _ [7, 2, 8, 9, 10, 11, 12, 13, 14, 15, 16, 17] (by decide +kernel) (by decide +kernel)
set_option maxRecDepth 20000 in
theorem gX9_lengthTo_X9_reaches : GoodIn wsX9_lengthTo (wsV RX9 87 RX9 yX9_reaches wsX9_reaches) := goodIn_app (goodIn_of _ (by decide +kernel)) ggX9_lengthTo_X9_reaches
theorem dX9_lengthTo_0 : decode cX9_lengthTo 0 = .ok (.aload_n 0, 1) := by decide +kernel
theorem dX9_lengthTo_1 : decode cX9_lengthTo 1 = .ok (.iload_n 1, 1) := by decide +kernel
theorem dX9_lengthTo_2 : decode cX9_lengthTo 2 = .ok (.invokevirtual 87, 3) := by decide +kernel
theorem dX9_lengthTo_5 : decode cX9_lengthTo 5 = .ok (.ifCond .eq 17, 3) := by decide +kernel
theorem dX9_lengthTo_8 : decode cX9_lengthTo 8 = .ok (.aload_n 0, 1) := by decide +kernel
theorem dX9_lengthTo_9 : decode cX9_lengthTo 9 = .ok (.getfield 31, 3) := by decide +kernel
theorem dX9_lengthTo_12 : decode cX9_lengthTo 12 = .ok (.aload_n 0, 1) := by decide +kernel
theorem dX9_lengthTo_13 : decode cX9_lengthTo 13 = .ok (.getfield 40, 3) := by decide +kernel
theorem dX9_lengthTo_16 : decode cX9_lengthTo 16 = .ok (.iload_n 1, 1) := by decide +kernel
theorem dX9_lengthTo_17 : decode cX9_lengthTo 17 = .ok (.iaload, 1) := by decide +kernel
theorem dX9_lengthTo_18 : decode cX9_lengthTo 18 = .ok (.iaload, 1) := by decide +kernel
theorem dX9_lengthTo_19 : decode cX9_lengthTo 19 = .ok (.goto 5, 3) := by decide +kernel
theorem dX9_lengthTo_22 : decode cX9_lengthTo 22 = .ok (.bipush (-2), 2) := by decide +kernel
theorem dX9_lengthTo_24 : decode cX9_lengthTo 24 = .ok (.ireturn, 1) := by decide +kernel
set_option maxRecDepth 20000 in
theorem ggX9_stepTo_X9_lengthTo : GoodIn wsX9_stepTo wsX9_lengthTo := goodIn_r _ [8, 9, 1, 10, 11, 12, 7, 13, 14, 15, 16, 17, 18, 19, 20, 21, 22, 23] (by decide +kernel) (by decide +kernel)
set_option maxRecDepth 20000 in
theorem gX9_stepTo_X9_lengthTo : GoodIn wsX9_stepTo (wsV RX9 91 RX9 yX9_lengthTo wsX9_lengthTo) := goodIn_app (goodIn_of _ (by decide +kernel)) ggX9_stepTo_X9_lengthTo
theorem dX9_stepTo_0 : decode cX9_stepTo 0 = .ok (.aload_n 0, 1) := by decide +kernel
theorem dX9_stepTo_1 : decode cX9_stepTo 1 = .ok (.iload_n 1, 1) := by decide +kernel
theorem dX9_stepTo_2 : decode cX9_stepTo 2 = .ok (.invokevirtual 91, 3) := by decide +kernel
theorem dX9_stepTo_5 : decode cX9_stepTo 5 = .ok (.istore_n 3, 1) := by decide +kernel
theorem dX9_stepTo_6 : decode cX9_stepTo 6 = .ok (.iload_n 2, 1) := by decide +kernel
theorem dX9_stepTo_7 : decode cX9_stepTo 7 = .ok (.ifCond .lt 8, 3) := by decide +kernel
theorem dX9_stepTo_10 : decode cX9_stepTo 10 = .ok (.iload_n 2, 1) := by decide +kernel
theorem dX9_stepTo_11 : decode cX9_stepTo 11 = .ok (.iload_n 3, 1) := by decide +kernel
theorem dX9_stepTo_12 : decode cX9_stepTo 12 = .ok (.if_icmp .lt 6, 3) := by decide +kernel
theorem dX9_stepTo_15 : decode cX9_stepTo 15 = .ok (.bipush (-2), 2) := by decide +kernel
theorem dX9_stepTo_17 : decode cX9_stepTo 17 = .ok (.ireturn, 1) := by decide +kernel
theorem dX9_stepTo_18 : decode cX9_stepTo 18 = .ok (.aload_n 0, 1) := by decide +kernel
theorem dX9_stepTo_19 : decode cX9_stepTo 19 = .ok (.getfield 40, 3) := by decide +kernel
theorem dX9_stepTo_22 : decode cX9_stepTo 22 = .ok (.iload_n 1, 1) := by decide +kernel
theorem dX9_stepTo_23 : decode cX9_stepTo 23 = .ok (.iaload, 1) := by decide +kernel
theorem dX9_stepTo_24 : decode cX9_stepTo 24 = .ok (.istore 4, 2) := by decide +kernel
theorem dX9_stepTo_26 : decode cX9_stepTo 26 = .ok (.iload_n 3, 1) := by decide +kernel
theorem dX9_stepTo_27 : decode cX9_stepTo 27 = .ok (.iconst 1, 1) := by decide +kernel
theorem dX9_stepTo_28 : decode cX9_stepTo 28 = .ok (.isub, 1) := by decide +kernel
theorem dX9_stepTo_29 : decode cX9_stepTo 29 = .ok (.istore 5, 2) := by decide +kernel
theorem dX9_stepTo_31 : decode cX9_stepTo 31 = .ok (.iload 5, 2) := by decide +kernel
theorem dX9_stepTo_33 : decode cX9_stepTo 33 = .ok (.iload_n 2, 1) := by decide +kernel
theorem dX9_stepTo_34 : decode cX9_stepTo 34 = .ok (.if_icmp .le 18, 3) := by decide +kernel
theorem dX9_stepTo_37 : decode cX9_stepTo 37 = .ok (.aload_n 0, 1) := by decide +kernel
theorem dX9_stepTo_38 : decode cX9_stepTo 38 = .ok (.getfield 34, 3) := by decide +kernel
theorem dX9_stepTo_41 : decode cX9_stepTo 41 = .ok (.iload 4, 2) := by decide +kernel
theorem dX9_stepTo_43 : decode cX9_stepTo 43 = .ok (.iaload, 1) := by decide +kernel
theorem dX9_stepTo_44 : decode cX9_stepTo 44 = .ok (.istore 4, 2) := by decide +kernel
theorem dX9_stepTo_46 : decode cX9_stepTo 46 = .ok (.iinc 5 (-1), 3) := by decide +kernel
theorem dX9_stepTo_49 : decode cX9_stepTo 49 = .ok (.goto (-18), 3) := by decide +kernel
theorem dX9_stepTo_52 : decode cX9_stepTo 52 = .ok (.aload_n 0, 1) := by decide +kernel
theorem dX9_stepTo_53 : decode cX9_stepTo 53 = .ok (.getfield 37, 3) := by decide +kernel
theorem dX9_stepTo_56 : decode cX9_stepTo 56 = .ok (.iload 4, 2) := by decide +kernel
theorem dX9_stepTo_58 : decode cX9_stepTo 58 = .ok (.iaload, 1) := by decide +kernel
theorem dX9_stepTo_59 : decode cX9_stepTo 59 = .ok (.ireturn, 1) := by decide +kernel
theorem dX10_lengthOf_0 : decode cX10_lengthOf 0 = .ok (.iconst 0, 1) := by decide +kernel
theorem dX10_lengthOf_1 : decode cX10_lengthOf 1 = .ok (.istore_n 1, 1) := by decide +kernel
theorem dX10_lengthOf_2 : decode cX10_lengthOf 2 = .ok (.iload_n 1, 1) := by decide +kernel
theorem dX10_lengthOf_3 : decode cX10_lengthOf 3 = .ok (.bipush 15, 2) := by decide +kernel
theorem dX10_lengthOf_5 : decode cX10_lengthOf 5 = .ok (.if_icmp .ge 17, 3) := by decide +kernel
theorem dX10_lengthOf_8 : decode cX10_lengthOf 8 = .ok (.iload_n 0, 1) := by decide +kernel
theorem dX10_lengthOf_9 : decode cX10_lengthOf 9 = .ok (.iconst 2, 1) := by decide +kernel
theorem dX10_lengthOf_10 : decode cX10_lengthOf 10 = .ok (.iload_n 1, 1) := by decide +kernel
theorem dX10_lengthOf_11 : decode cX10_lengthOf 11 = .ok (.imul, 1) := by decide +kernel
theorem dX10_lengthOf_12 : decode cX10_lengthOf 12 = .ok (.ishr, 1) := by decide +kernel
theorem dX10_lengthOf_13 : decode cX10_lengthOf 13 = .ok (.ifCond .eq 9, 3) := by decide +kernel
theorem dX10_lengthOf_16 : decode cX10_lengthOf 16 = .ok (.iinc 1 1, 3) := by decide +kernel
theorem dX10_lengthOf_19 : decode cX10_lengthOf 19 = .ok (.goto (-17), 3) := by decide +kernel
theorem dX10_lengthOf_22 : decode cX10_lengthOf 22 = .ok (.iload_n 1, 1) := by decide +kernel
theorem dX10_lengthOf_23 : decode cX10_lengthOf 23 = .ok (.ireturn, 1) := by decide +kernel
theorem dX10_letterOf_0 : decode cX10_letterOf 0 = .ok (.bipush 96, 2) := by decide +kernel
theorem dX10_letterOf_2 : decode cX10_letterOf 2 = .ok (.iload_n 0, 1) := by decide +kernel
theorem dX10_letterOf_3 : decode cX10_letterOf 3 = .ok (.iconst 2, 1) := by decide +kernel
theorem dX10_letterOf_4 : decode cX10_letterOf 4 = .ok (.iload_n 1, 1) := by decide +kernel
theorem dX10_letterOf_5 : decode cX10_letterOf 5 = .ok (.imul, 1) := by decide +kernel
theorem dX10_letterOf_6 : decode cX10_letterOf 6 = .ok (.ishr, 1) := by decide +kernel
theorem dX10_letterOf_7 : decode cX10_letterOf 7 = .ok (.iconst 3, 1) := by decide +kernel
theorem dX10_letterOf_8 : decode cX10_letterOf 8 = .ok (.iand, 1) := by decide +kernel
theorem dX10_letterOf_9 : decode cX10_letterOf 9 = .ok (.iadd, 1) := by decide +kernel
theorem dX10_letterOf_10 : decode cX10_letterOf 10 = .ok (.ireturn, 1) := by decide +kernel
theorem dX10_append_0 : decode cX10_append 0 = .ok (.iload_n 0, 1) := by decide +kernel
theorem dX10_append_1 : decode cX10_append 1 = .ok (.iload_n 2, 1) := by decide +kernel
theorem dX10_append_2 : decode cX10_append 2 = .ok (.bipush 97, 2) := by decide +kernel
theorem dX10_append_4 : decode cX10_append 4 = .ok (.isub, 1) := by decide +kernel
theorem dX10_append_5 : decode cX10_append 5 = .ok (.iconst 1, 1) := by decide +kernel
theorem dX10_append_6 : decode cX10_append 6 = .ok (.iadd, 1) := by decide +kernel
theorem dX10_append_7 : decode cX10_append 7 = .ok (.iconst 2, 1) := by decide +kernel
theorem dX10_append_8 : decode cX10_append 8 = .ok (.iload_n 1, 1) := by decide +kernel
theorem dX10_append_9 : decode cX10_append 9 = .ok (.imul, 1) := by decide +kernel
theorem dX10_append_10 : decode cX10_append 10 = .ok (.ishl, 1) := by decide +kernel
theorem dX10_append_11 : decode cX10_append 11 = .ok (.ior, 1) := by decide +kernel
theorem dX10_append_12 : decode cX10_append 12 = .ok (.ireturn, 1) := by decide +kernel
theorem dX10_headOf_0 : decode cX10_headOf 0 = .ok (.iload_n 0, 1) := by decide +kernel
theorem dX10_headOf_1 : decode cX10_headOf 1 = .ok (.iconst 1, 1) := by decide +kernel
theorem dX10_headOf_2 : decode cX10_headOf 2 = .ok (.iconst 2, 1) := by decide +kernel
theorem dX10_headOf_3 : decode cX10_headOf 3 = .ok (.iload_n 1, 1) := by decide +kernel
theorem dX10_headOf_4 : decode cX10_headOf 4 = .ok (.imul, 1) := by decide +kernel
theorem dX10_headOf_5 : decode cX10_headOf 5 = .ok (.ishl, 1) := by decide +kernel
theorem dX10_headOf_6 : decode cX10_headOf 6 = .ok (.iconst 1, 1) := by decide +kernel
theorem dX10_headOf_7 : decode cX10_headOf 7 = .ok (.isub, 1) := by decide +kernel
theorem dX10_headOf_8 : decode cX10_headOf 8 = .ok (.iand, 1) := by decide +kernel
theorem dX10_headOf_9 : decode cX10_headOf 9 = .ok (.ireturn, 1) := by decide +kernel
set_option maxRecDepth 20000 in
theorem ggX10_occurs_X10_lengthOf : GoodIn wsX10_occurs wsX10_lengthOf := goodIn_r _ [4] (by decide +kernel) (by decide +kernel)
set_option maxRecDepth 20000 in
theorem gX10_occurs_X10_lengthOf : GoodIn wsX10_occurs (va_wsS RX10 9 yX10_lengthOf wsX10_lengthOf) := goodIn_app (goodIn_of _ (by decide +kernel)) ggX10_occurs_X10_lengthOf
set_option maxRecDepth 20000 in
theorem ggX10_occurs_X10_headOf : GoodIn wsX10_occurs wsX10_headOf := goodIn_r _ [7] (by decide +kernel) (by decide +kernel)
set_option maxRecDepth 20000 in
theorem gX10_occurs_X10_headOf : GoodIn wsX10_occurs (va_wsS RX10 13 yX10_headOf wsX10_headOf) := goodIn_app (goodIn_of _ (by decide +kernel)) ggX10_occurs_X10_headOf
theorem dX10_occurs_0 : decode cX10_occurs 0 = .ok (.iload_n 1, 1) := by decide +kernel
theorem dX10_occurs_1 : decode cX10_occurs 1 = .ok (.iconst 2, 1) := by decide +kernel
theorem dX10_occurs_2 : decode cX10_occurs 2 = .ok (.iload_n 2, 1) := by decide +kernel
theorem dX10_occurs_3 : decode cX10_occurs 3 = .ok (.imul, 1) := by decide +kernel
theorem dX10_occurs_4 : decode cX10_occurs 4 = .ok (.ishr, 1) := by decide +kernel
theorem dX10_occurs_5 : decode cX10_occurs 5 = .ok (.iload_n 0, 1) := by decide +kernel
theorem dX10_occurs_6 : decode cX10_occurs 6 = .ok (.invokestatic 9, 3) := by decide +kernel
theorem dX10_occurs_9 : decode cX10_occurs 9 = .ok (.invokestatic 13, 3) := by decide +kernel
theorem dX10_occurs_12 : decode cX10_occurs 12 = .ok (.iload_n 0, 1) := by decide +kernel
theorem dX10_occurs_13 : decode cX10_occurs 13 = .ok (.if_icmp .ne 7, 3) := by decide +kernel
theorem dX10_occurs_16 : decode cX10_occurs 16 = .ok (.iconst 1, 1) := by decide +kernel
theorem dX10_occurs_17 : decode cX10_occurs 17 = .ok (.goto 4, 3) := by decide +kernel
theorem dX10_occurs_20 : decode cX10_occurs 20 = .ok (.iconst 0, 1) := by decide +kernel
theorem dX10_occurs_21 : decode cX10_occurs 21 = .ok (.ireturn, 1) := by decide +kernel
set_option maxRecDepth 20000 in
theorem ggX10_replace_X10_lengthOf : GoodIn wsX10_replace wsX10_lengthOf := goodIn_r _ [4] (by decide +kernel) (by decide +kernel)
set_option maxRecDepth 20000 in
theorem gX10_replace_X10_lengthOf : GoodIn wsX10_replace (va_wsS RX10 9 yX10_lengthOf wsX10_lengthOf) := goodIn_app (goodIn_of _ (by decide +kernel)) ggX10_replace_X10_lengthOf
set_option maxRecDepth 20000 in
theorem ggX10_replace_X10_headOf : GoodIn wsX10_replace wsX10_headOf := goodIn_r _ [7] (by decide +kernel) (by decide +kernel)
set_option maxRecDepth 20000 in
theorem gX10_replace_X10_headOf : GoodIn wsX10_replace (va_wsS RX10 13 yX10_headOf wsX10_headOf) := goodIn_app (goodIn_of _ (by decide +kernel)) ggX10_replace_X10_headOf
theorem dX10_replace_0 : decode cX10_replace 0 = .ok (.iload_n 0, 1) := by decide +kernel
theorem dX10_replace_1 : decode cX10_replace 1 = .ok (.iconst 2, 1) := by decide +kernel
theorem dX10_replace_2 : decode cX10_replace 2 = .ok (.iload_n 1, 1) := by decide +kernel
theorem dX10_replace_3 : decode cX10_replace 3 = .ok (.iload_n 2, 1) := by decide +kernel
theorem dX10_replace_4 : decode cX10_replace 4 = .ok (.invokestatic 9, 3) := by decide +kernel
theorem dX10_replace_7 : decode cX10_replace 7 = .ok (.iadd, 1) := by decide +kernel
theorem dX10_replace_8 : decode cX10_replace 8 = .ok (.imul, 1) := by decide +kernel
theorem dX10_replace_9 : decode cX10_replace 9 = .ok (.ishr, 1) := by decide +kernel
theorem dX10_replace_10 : decode cX10_replace 10 = .ok (.istore 4, 2) := by decide +kernel
theorem dX10_replace_12 : decode cX10_replace 12 = .ok (.iload_n 0, 1) := by decide +kernel
theorem dX10_replace_13 : decode cX10_replace 13 = .ok (.iload_n 1, 1) := by decide +kernel
theorem dX10_replace_14 : decode cX10_replace 14 = .ok (.invokestatic 13, 3) := by decide +kernel
theorem dX10_replace_17 : decode cX10_replace 17 = .ok (.iload_n 3, 1) := by decide +kernel
theorem dX10_replace_18 : decode cX10_replace 18 = .ok (.iconst 2, 1) := by decide +kernel
theorem dX10_replace_19 : decode cX10_replace 19 = .ok (.iload_n 1, 1) := by decide +kernel
theorem dX10_replace_20 : decode cX10_replace 20 = .ok (.imul, 1) := by decide +kernel
theorem dX10_replace_21 : decode cX10_replace 21 = .ok (.ishl, 1) := by decide +kernel
theorem dX10_replace_22 : decode cX10_replace 22 = .ok (.ior, 1) := by decide +kernel
theorem dX10_replace_23 : decode cX10_replace 23 = .ok (.iload 4, 2) := by decide +kernel
theorem dX10_replace_25 : decode cX10_replace 25 = .ok (.iconst 2, 1) := by decide +kernel
theorem dX10_replace_26 : decode cX10_replace 26 = .ok (.iload_n 1, 1) := by decide +kernel
theorem dX10_replace_27 : decode cX10_replace 27 = .ok (.iload_n 3, 1) := by decide +kernel
theorem dX10_replace_28 : decode cX10_replace 28 = .ok (.invokestatic 9, 3) := by decide +kernel
theorem dX10_replace_31 : decode cX10_replace 31 = .ok (.iadd, 1) := by decide +kernel
theorem dX10_replace_32 : decode cX10_replace 32 = .ok (.imul, 1) := by decide +kernel
theorem dX10_replace_33 : decode cX10_replace 33 = .ok (.ishl, 1) := by decide +kernel
theorem dX10_replace_34 : decode cX10_replace 34 = .ok (.ior, 1) := by decide +kernel
theorem dX10_replace_35 : decode cX10_replace 35 = .ok (.ireturn, 1) := by decide +kernel
set_option maxRecDepth 20000 in
theorem ggX11_init_X2_init : GoodIn wsX11_init wsX2_init := goodIn_r _ [52, 53, 2, 3, 49, 54, 55, 134, 135] (by decide +kernel) (by decide +kernel)
set_option maxRecDepth 20000 in
theorem gX11_init_X2_init_n11 : GoodIn wsX11_init (wsX2_init) := ggX11_init_X2_init
set_option maxRecDepth 20000 in
theorem ggX11_init_X3_init : GoodIn wsX11_init wsX3_init := goodIn_r _ [57, 58, 2, 3, 59, 49, 60, 61, 62, 63, 64, 152, 153, 154, 155, 156, 157] (by decide +kernel) (by decide +kernel)
set_option maxRecDepth 20000 in
theorem gX11_init_X3_init_n18 : GoodIn wsX11_init (wsX3_init) := ggX11_init_X3_init
set_option maxRecDepth 20000 in
theorem ggX11_init_X8_init : GoodIn wsX11_init wsX8_init := goodIn_r _ [66, 67, 2, 3, 68, 49, 69, 70, 158, 159, 160] (by decide +kernel) (by decide +kernel)
set_option maxRecDepth 20000 in
theorem gX11_init_X8_init_n25 : GoodIn wsX11_init (wsX8_init) := ggX11_init_X8_init
set_option maxRecDepth 20000 in
theorem ggX11_init_X7_init : GoodIn wsX11_init wsX7_init := goodIn_r _ [72, 73, 2, 3, 74, 49, 75, 76, 161, 162, 163] (by decide +kernel) (by decide +kernel)
set_option maxRecDepth 20000 in
theorem gX11_init_X7_init_n45 : GoodIn wsX11_init (wsX7_init) := ggX11_init_X7_init
set_option maxRecDepth 20000 in
theorem ggX11_init_X9_init : GoodIn wsX11_init wsX9_init := goodIn_r _ [78, 79, 2, 3, 80, 81, 82, 83, 49, 84, 85, 86, 87, 88, 89, 164, 165, 166, 167, 168, 169, 170, 171, 172, 173] (by decide +kernel) (by decide +kernel)
set_option maxRecDepth 20000 in
theorem gX11_init_X9_init_n52 : GoodIn wsX11_init (wsX9_init) := ggX11_init_X9_init
set_option maxRecDepth 20000 in
theorem ggX11_init_X6_init : GoodIn wsX11_init wsX6_init := goodIn_r _ [91, 92, 2, 3, 93, 94, 95, 174, 175] (by decide +kernel) (by decide +kernel)
set_option maxRecDepth 20000 in
theorem gX11_init_X6_init_n62 : GoodIn wsX11_init (wsX6_init) := ggX11_init_X6_init
set_option maxRecDepth 20000 in
theorem ggX11_init_X4_init : GoodIn wsX11_init wsX4_init := goodIn_r _ [97, 98, 2, 3, 99, 9, 10, 100, 101, 5, 6, 102, 103, 21, 22, 104, 49, 105, 106, 56, 57, 58, 59, 60, 61, 62, 63, 64, 51, 52, 53, 54, 55, 71, 72, 73, 74, 75, 76, 107, 108, 109, 152, 153, 154, 155, 156, 157, 176, 177, 178, 179, 180, 134, 135, 161, 162, 163] (by decide +kernel) (by decide +kernel)
set_option maxRecDepth 20000 in
theorem gX11_init_X4_init_n69 : GoodIn wsX11_init (wsX4_init) := ggX11_init_X4_init
set_option maxRecDepth 20000 in
theorem ggX11_init_X1_init : GoodIn wsX11_init wsX1_init := goodIn_r _ [111, 112, 2, 3, 113, 49, 114, 181, 182] (by decide +kernel) (by decide +kernel)
set_option maxRecDepth 20000 in
theorem gX11_init_X1_init_n76 : GoodIn wsX11_init (wsX1_init) := ggX11_init_X1_init
set_option maxRecDepth 20000 in
theorem ggX11_init_X0_init : GoodIn wsX11_init wsX0_init := goodIn_r _ [116, 117, 2, 3, 118, 9, 10, 119, 120, 121, 122, 56, 57, 58, 59, 49, 60, 61, 62, 63, 64, 152, 153, 154, 155, 156, 157, 183, 184, 185, 186] (by decide +kernel) (by decide +kernel)
set_option maxRecDepth 20000 in
theorem gX11_init_X0_init_n83 : GoodIn wsX11_init (wsX0_init) := ggX11_init_X0_init
set_option maxRecDepth 20000 in
theorem ggX11_init_X5_init : GoodIn wsX11_init wsX5_init := goodIn_r _ [124, 125, 2, 3, 49, 126, 127, 128, 129, 130, 131, 132, 133, 187, 188] (by decide +kernel) (by decide +kernel)
set_option maxRecDepth 20000 in
theorem gX11_init_X5_init_n90 : GoodIn wsX11_init (wsX5_init) := ggX11_init_X5_init
theorem dX11_init_0 : decode cX11_init 0 = .ok (.aload_n 0, 1) := by decide +kernel
theorem dX11_init_1 : decode cX11_init 1 = .ok (.invokespecial 3, 3) := by decide +kernel
theorem dX11_init_4 : decode cX11_init 4 = .ok (.aload_n 0, 1) := by decide +kernel
theorem dX11_init_5 : decode cX11_init 5 = .ok (.new 9, 3) := by decide +kernel
theorem dX11_init_8 : decode cX11_init 8 = .ok (.dup, 1) := by decide +kernel
theorem dX11_init_9 : decode cX11_init 9 = .ok (.invokespecial 11, 3) := by decide +kernel
theorem dX11_init_12 : decode cX11_init 12 = .ok (.putfield 12, 3) := by decide +kernel
theorem dX11_init_15 : decode cX11_init 15 = .ok (.aload_n 0, 1) := by decide +kernel
theorem dX11_init_16 : decode cX11_init 16 = .ok (.new 16, 3) := by decide +kernel
theorem dX11_init_19 : decode cX11_init 19 = .ok (.dup, 1) := by decide +kernel
theorem dX11_init_20 : decode cX11_init 20 = .ok (.invokespecial 18, 3) := by decide +kernel
theorem dX11_init_23 : decode cX11_init 23 = .ok (.putfield 19, 3) := by decide +kernel
theorem dX11_init_26 : decode cX11_init 26 = .ok (.aload_n 0, 1) := by decide +kernel
theorem dX11_init_27 : decode cX11_init 27 = .ok (.new 23, 3) := by decide +kernel
theorem dX11_init_30 : decode cX11_init 30 = .ok (.dup, 1) := by decide +kernel
theorem dX11_init_31 : decode cX11_init 31 = .ok (.invokespecial 25, 3) := by decide +kernel
theorem dX11_init_34 : decode cX11_init 34 = .ok (.putfield 26, 3) := by decide +kernel
theorem dX11_init_37 : decode cX11_init 37 = .ok (.aload_n 0, 1) := by decide +kernel
theorem dX11_init_38 : decode cX11_init 38 = .ok (.new 9, 3) := by decide +kernel
theorem dX11_init_41 : decode cX11_init 41 = .ok (.dup, 1) := by decide +kernel
theorem dX11_init_42 : decode cX11_init 42 = .ok (.invokespecial 11, 3) := by decide +kernel
theorem dX11_init_45 : decode cX11_init 45 = .ok (.putfield 30, 3) := by decide +kernel
theorem dX11_init_48 : decode cX11_init 48 = .ok (.aload_n 0, 1) := by decide +kernel
theorem dX11_init_49 : decode cX11_init 49 = .ok (.new 16, 3) := by decide +kernel
theorem dX11_init_52 : decode cX11_init 52 = .ok (.dup, 1) := by decide +kernel
theorem dX11_init_53 : decode cX11_init 53 = .ok (.invokespecial 18, 3) := by decide +kernel
theorem dX11_init_56 : decode cX11_init 56 = .ok (.putfield 33, 3) := by decide +kernel
theorem dX11_init_59 : decode cX11_init 59 = .ok (.aload_n 0, 1) := by decide +kernel
theorem dX11_init_60 : decode cX11_init 60 = .ok (.new 23, 3) := by decide +kernel
theorem dX11_init_63 : decode cX11_init 63 = .ok (.dup, 1) := by decide +kernel
theorem dX11_init_64 : decode cX11_init 64 = .ok (.invokespecial 25, 3) := by decide +kernel
theorem dX11_init_67 : decode cX11_init 67 = .ok (.putfield 36, 3) := by decide +kernel
theorem dX11_init_70 : decode cX11_init 70 = .ok (.aload_n 0, 1) := by decide +kernel
theorem dX11_init_71 : decode cX11_init 71 = .ok (.iconst 0, 1) := by decide +kernel
theorem dX11_init_72 : decode cX11_init 72 = .ok (.putfield 39, 3) := by decide +kernel
theorem dX11_init_75 : decode cX11_init 75 = .ok (.aload_n 0, 1) := by decide +kernel
theorem dX11_init_76 : decode cX11_init 76 = .ok (.new 43, 3) := by decide +kernel
theorem dX11_init_79 : decode cX11_init 79 = .ok (.dup, 1) := by decide +kernel
theorem dX11_init_80 : decode cX11_init 80 = .ok (.invokespecial 45, 3) := by decide +kernel
theorem dX11_init_83 : decode cX11_init 83 = .ok (.putfield 46, 3) := by decide +kernel
theorem dX11_init_86 : decode cX11_init 86 = .ok (.aload_n 0, 1) := by decide +kernel
theorem dX11_init_87 : decode cX11_init 87 = .ok (.new 50, 3) := by decide +kernel
theorem dX11_init_90 : decode cX11_init 90 = .ok (.dup, 1) := by decide +kernel
theorem dX11_init_91 : decode cX11_init 91 = .ok (.invokespecial 52, 3) := by decide +kernel
theorem dX11_init_94 : decode cX11_init 94 = .ok (.putfield 53, 3) := by decide +kernel
theorem dX11_init_97 : decode cX11_init 97 = .ok (.aload_n 0, 1) := by decide +kernel
theorem dX11_init_98 : decode cX11_init 98 = .ok (.new 50, 3) := by decide +kernel
theorem dX11_init_101 : decode cX11_init 101 = .ok (.dup, 1) := by decide +kernel
theorem dX11_init_102 : decode cX11_init 102 = .ok (.invokespecial 52, 3) := by decide +kernel
theorem dX11_init_105 : decode cX11_init 105 = .ok (.putfield 57, 3) := by decide +kernel
theorem dX11_init_108 : decode cX11_init 108 = .ok (.aload_n 0, 1) := by decide +kernel
theorem dX11_init_109 : decode cX11_init 109 = .ok (.new 60, 3) := by decide +kernel
theorem dX11_init_112 : decode cX11_init 112 = .ok (.dup, 1) := by decide +kernel
theorem dX11_init_113 : decode cX11_init 113 = .ok (.invokespecial 62, 3) := by decide +kernel
theorem dX11_init_116 : decode cX11_init 116 = .ok (.putfield 63, 3) := by decide +kernel
theorem dX11_init_119 : decode cX11_init 119 = .ok (.aload_n 0, 1) := by decide +kernel
theorem dX11_init_120 : decode cX11_init 120 = .ok (.new 67, 3) := by decide +kernel
theorem dX11_init_123 : decode cX11_init 123 = .ok (.dup, 1) := by decide +kernel
theorem dX11_init_124 : decode cX11_init 124 = .ok (.invokespecial 69, 3) := by decide +kernel
theorem dX11_init_127 : decode cX11_init 127 = .ok (.putfield 70, 3) := by decide +kernel
theorem dX11_init_130 : decode cX11_init 130 = .ok (.aload_n 0, 1) := by decide +kernel
theorem dX11_init_131 : decode cX11_init 131 = .ok (.new 74, 3) := by decide +kernel
theorem dX11_init_134 : decode cX11_init 134 = .ok (.dup, 1) := by decide +kernel
theorem dX11_init_135 : decode cX11_init 135 = .ok (.invokespecial 76, 3) := by decide +kernel
theorem dX11_init_138 : decode cX11_init 138 = .ok (.putfield 77, 3) := by decide +kernel
theorem dX11_init_141 : decode cX11_init 141 = .ok (.aload_n 0, 1) := by decide +kernel
theorem dX11_init_142 : decode cX11_init 142 = .ok (.new 81, 3) := by decide +kernel
theorem dX11_init_145 : decode cX11_init 145 = .ok (.dup, 1) := by decide +kernel
theorem dX11_init_146 : decode cX11_init 146 = .ok (.invokespecial 83, 3) := by decide +kernel
theorem dX11_init_149 : decode cX11_init 149 = .ok (.putfield 84, 3) := by decide +kernel
theorem dX11_init_152 : decode cX11_init 152 = .ok (.aload_n 0, 1) := by decide +kernel
theorem dX11_init_153 : decode cX11_init 153 = .ok (.new 88, 3) := by decide +kernel
theorem dX11_init_156 : decode cX11_init 156 = .ok (.dup, 1) := by decide +kernel
theorem dX11_init_157 : decode cX11_init 157 = .ok (.invokespecial 90, 3) := by decide +kernel
theorem dX11_init_160 : decode cX11_init 160 = .ok (.putfield 91, 3) := by decide +kernel
theorem dX11_init_163 : decode cX11_init 163 = .ok (.aload_n 0, 1) := by decide +kernel
theorem dX11_init_164 : decode cX11_init 164 = .ok (.bipush 16, 2) := by decide +kernel
theorem dX11_init_166 : decode cX11_init 166 = .ok (.newarray .int, 2) := by decide +kernel
theorem dX11_init_168 : decode cX11_init 168 = .ok (.putfield 95, 3) := by decide +kernel
theorem dX11_init_171 : decode cX11_init 171 = .ok (.return_, 1) := by decide +kernel
set_option maxRecDepth 20000 in
theorem ggX11_addGreater_X11_isLabel : GoodIn wsX11_addGreater wsX11_isLabel := goodIn_r _ [5] (by decide +kernel) (by decide +kernel)
set_option maxRecDepth 20000 in
theorem gX11_addGreater_X11_isLabel : GoodIn wsX11_addGreater (va_wsS RX11 99 yX11_isLabel wsX11_isLabel) := goodIn_app (goodIn_of _ (by decide +kernel)) ggX11_addGreater_X11_isLabel
set_option maxRecDepth 20000 in
theorem ggX11_addGreater_X2_isAbove : GoodIn wsX11_addGreater wsX2_isAbove := goodIn_r _ [9, 10, 11, 4, 12, 44, 45] (by decide +kernel) (by decide +kernel)
set_option maxRecDepth 20000 in
theorem gX11_addGreater_X2_isAbove_n103 : GoodIn wsX11_addGreater (wsX2_isAbove) := ggX11_addGreater_X2_isAbove
set_option maxRecDepth 20000 in
theorem ggX11_addGreater_X2_hasPair : GoodIn wsX11_addGreater wsX2_hasPair := goodIn_r _ [15, 16, 11, 4, 12, 44, 45] (by decide +kernel) (by decide +kernel)
set_option maxRecDepth 20000 in
theorem gX11_addGreater_X2_hasPair_n107 : GoodIn wsX11_addGreater (wsX2_hasPair) := ggX11_addGreater_X2_hasPair
set_option maxRecDepth 20000 in
theorem ggX11_addGreater_X2_put : GoodIn wsX11_addGreater wsX2_put := goodIn_r _ [19, 16, 20, 21, 22, 7, 23, 10, 24, 25, 26, 27, 11, 4, 12, 44, 45] (by decide +kernel) (by decide +kernel)
set_option maxRecDepth 20000 in
theorem gX11_addGreater_X2_put_n110 : GoodIn wsX11_addGreater (wsX2_put) := ggX11_addGreater_X2_put
theorem dX11_addGreater_0 : decode cX11_addGreater 0 = .ok (.iload_n 1, 1) := by decide +kernel
theorem dX11_addGreater_1 : decode cX11_addGreater 1 = .ok (.invokestatic 99, 3) := by decide +kernel
theorem dX11_addGreater_4 : decode cX11_addGreater 4 = .ok (.ifCond .eq 10, 3) := by decide +kernel
theorem dX11_addGreater_7 : decode cX11_addGreater 7 = .ok (.iload_n 2, 1) := by decide +kernel
theorem dX11_addGreater_8 : decode cX11_addGreater 8 = .ok (.invokestatic 99, 3) := by decide +kernel
theorem dX11_addGreater_11 : decode cX11_addGreater 11 = .ok (.ifCond .ne 5, 3) := by decide +kernel
theorem dX11_addGreater_14 : decode cX11_addGreater 14 = .ok (.iconst (-1), 1) := by decide +kernel
theorem dX11_addGreater_15 : decode cX11_addGreater 15 = .ok (.ireturn, 1) := by decide +kernel
theorem dX11_addGreater_16 : decode cX11_addGreater 16 = .ok (.iload_n 1, 1) := by decide +kernel
theorem dX11_addGreater_17 : decode cX11_addGreater 17 = .ok (.iload_n 2, 1) := by decide +kernel
theorem dX11_addGreater_18 : decode cX11_addGreater 18 = .ok (.if_icmp .eq 15, 3) := by decide +kernel
theorem dX11_addGreater_21 : decode cX11_addGreater 21 = .ok (.aload_n 0, 1) := by decide +kernel
theorem dX11_addGreater_22 : decode cX11_addGreater 22 = .ok (.getfield 12, 3) := by decide +kernel
theorem dX11_addGreater_25 : decode cX11_addGreater 25 = .ok (.iload_n 2, 1) := by decide +kernel
theorem dX11_addGreater_26 : decode cX11_addGreater 26 = .ok (.iload_n 1, 1) := by decide +kernel
theorem dX11_addGreater_27 : decode cX11_addGreater 27 = .ok (.invokevirtual 103, 3) := by decide +kernel
theorem dX11_addGreater_30 : decode cX11_addGreater 30 = .ok (.ifCond .eq 6, 3) := by decide +kernel
theorem dX11_addGreater_33 : decode cX11_addGreater 33 = .ok (.bipush (-4), 2) := by decide +kernel
theorem dX11_addGreater_35 : decode cX11_addGreater 35 = .ok (.ireturn, 1) := by decide +kernel
theorem dX11_addGreater_36 : decode cX11_addGreater 36 = .ok (.aload_n 0, 1) := by decide +kernel
theorem dX11_addGreater_37 : decode cX11_addGreater 37 = .ok (.getfield 12, 3) := by decide +kernel
theorem dX11_addGreater_40 : decode cX11_addGreater 40 = .ok (.iload_n 1, 1) := by decide +kernel
theorem dX11_addGreater_41 : decode cX11_addGreater 41 = .ok (.iload_n 2, 1) := by decide +kernel
theorem dX11_addGreater_42 : decode cX11_addGreater 42 = .ok (.invokevirtual 107, 3) := by decide +kernel
theorem dX11_addGreater_45 : decode cX11_addGreater 45 = .ok (.ifCond .eq 5, 3) := by decide +kernel
theorem dX11_addGreater_48 : decode cX11_addGreater 48 = .ok (.iconst 0, 1) := by decide +kernel
theorem dX11_addGreater_49 : decode cX11_addGreater 49 = .ok (.ireturn, 1) := by decide +kernel
theorem dX11_addGreater_50 : decode cX11_addGreater 50 = .ok (.aload_n 0, 1) := by decide +kernel
theorem dX11_addGreater_51 : decode cX11_addGreater 51 = .ok (.getfield 12, 3) := by decide +kernel
theorem dX11_addGreater_54 : decode cX11_addGreater 54 = .ok (.iload_n 1, 1) := by decide +kernel
theorem dX11_addGreater_55 : decode cX11_addGreater 55 = .ok (.iload_n 2, 1) := by decide +kernel
theorem dX11_addGreater_56 : decode cX11_addGreater 56 = .ok (.invokevirtual 110, 3) := by decide +kernel
theorem dX11_addGreater_59 : decode cX11_addGreater 59 = .ok (.iconst 1, 1) := by decide +kernel
theorem dX11_addGreater_60 : decode cX11_addGreater 60 = .ok (.ireturn, 1) := by decide +kernel
set_option maxRecDepth 20000 in
theorem ggX11_removeGreater_X11_isLabel : GoodIn wsX11_removeGreater wsX11_isLabel := goodIn_r _ [5] (by decide +kernel) (by decide +kernel)
set_option maxRecDepth 20000 in
theorem gX11_removeGreater_X11_isLabel : GoodIn wsX11_removeGreater (va_wsS RX11 99 yX11_isLabel wsX11_isLabel) := goodIn_app (goodIn_of _ (by decide +kernel)) ggX11_removeGreater_X11_isLabel
set_option maxRecDepth 20000 in
theorem ggX11_removeGreater_X2_hasPair : GoodIn wsX11_removeGreater wsX2_hasPair := goodIn_r _ [9, 10, 11, 4, 12, 41, 42] (by decide +kernel) (by decide +kernel)
set_option maxRecDepth 20000 in
theorem gX11_removeGreater_X2_hasPair_n107 : GoodIn wsX11_removeGreater (wsX2_hasPair) := ggX11_removeGreater_X2_hasPair
set_option maxRecDepth 20000 in
theorem ggX11_removeGreater_X2_drop : GoodIn wsX11_removeGreater wsX2_drop := goodIn_r _ [15, 10, 16, 17, 18, 7, 19, 20, 21, 22, 23, 24, 11, 4, 12, 41, 42] (by decide +kernel) (by decide +kernel)
set_option maxRecDepth 20000 in
theorem gX11_removeGreater_X2_drop_n114 : GoodIn wsX11_removeGreater (wsX2_drop) := ggX11_removeGreater_X2_drop
theorem dX11_removeGreater_0 : decode cX11_removeGreater 0 = .ok (.iload_n 1, 1) := by decide +kernel
theorem dX11_removeGreater_1 : decode cX11_removeGreater 1 = .ok (.invokestatic 99, 3) := by decide +kernel
theorem dX11_removeGreater_4 : decode cX11_removeGreater 4 = .ok (.ifCond .eq 10, 3) := by decide +kernel
theorem dX11_removeGreater_7 : decode cX11_removeGreater 7 = .ok (.iload_n 2, 1) := by decide +kernel
theorem dX11_removeGreater_8 : decode cX11_removeGreater 8 = .ok (.invokestatic 99, 3) := by decide +kernel
theorem dX11_removeGreater_11 : decode cX11_removeGreater 11 = .ok (.ifCond .ne 5, 3) := by decide +kernel
theorem dX11_removeGreater_14 : decode cX11_removeGreater 14 = .ok (.iconst (-1), 1) := by decide +kernel
theorem dX11_removeGreater_15 : decode cX11_removeGreater 15 = .ok (.ireturn, 1) := by decide +kernel
theorem dX11_removeGreater_16 : decode cX11_removeGreater 16 = .ok (.aload_n 0, 1) := by decide +kernel
theorem dX11_removeGreater_17 : decode cX11_removeGreater 17 = .ok (.getfield 12, 3) := by decide +kernel
theorem dX11_removeGreater_20 : decode cX11_removeGreater 20 = .ok (.iload_n 1, 1) := by decide +kernel
theorem dX11_removeGreater_21 : decode cX11_removeGreater 21 = .ok (.iload_n 2, 1) := by decide +kernel
theorem dX11_removeGreater_22 : decode cX11_removeGreater 22 = .ok (.invokevirtual 107, 3) := by decide +kernel
theorem dX11_removeGreater_25 : decode cX11_removeGreater 25 = .ok (.ifCond .ne 5, 3) := by decide +kernel
theorem dX11_removeGreater_28 : decode cX11_removeGreater 28 = .ok (.iconst 0, 1) := by decide +kernel
theorem dX11_removeGreater_29 : decode cX11_removeGreater 29 = .ok (.ireturn, 1) := by decide +kernel
theorem dX11_removeGreater_30 : decode cX11_removeGreater 30 = .ok (.aload_n 0, 1) := by decide +kernel
theorem dX11_removeGreater_31 : decode cX11_removeGreater 31 = .ok (.getfield 12, 3) := by decide +kernel
theorem dX11_removeGreater_34 : decode cX11_removeGreater 34 = .ok (.iload_n 1, 1) := by decide +kernel
theorem dX11_removeGreater_35 : decode cX11_removeGreater 35 = .ok (.iload_n 2, 1) := by decide +kernel
theorem dX11_removeGreater_36 : decode cX11_removeGreater 36 = .ok (.invokevirtual 114, 3) := by decide +kernel
theorem dX11_removeGreater_39 : decode cX11_removeGreater 39 = .ok (.iconst 1, 1) := by decide +kernel
theorem dX11_removeGreater_40 : decode cX11_removeGreater 40 = .ok (.ireturn, 1) := by decide +kernel
set_option maxRecDepth 20000 in
theorem ggX11_isGreater_X11_isLabel : GoodIn wsX11_isGreater wsX11_isLabel := goodIn_r _ [5] (by decide +kernel) (by decide +kernel)
set_option maxRecDepth 20000 in
theorem gX11_isGreater_X11_isLabel : GoodIn wsX11_isGreater (va_wsS RX11 99 yX11_isLabel wsX11_isLabel) := goodIn_app (goodIn_of _ (by decide +kernel)) ggX11_isGreater_X11_isLabel
set_option maxRecDepth 20000 in
theorem ggX11_isGreater_X2_isAbove : GoodIn wsX11_isGreater wsX2_isAbove := goodIn_r _ [9, 10, 11, 4, 12, 29, 30] (by decide +kernel) (by decide +kernel)
set_option maxRecDepth 20000 in
theorem gX11_isGreater_X2_isAbove_n103 : GoodIn wsX11_isGreater (wsX2_isAbove) := ggX11_isGreater_X2_isAbove
theorem dX11_isGreater_0 : decode cX11_isGreater 0 = .ok (.iload_n 1, 1) := by decide +kernel
theorem dX11_isGreater_1 : decode cX11_isGreater 1 = .ok (.invokestatic 99, 3) := by decide +kernel
theorem dX11_isGreater_4 : decode cX11_isGreater 4 = .ok (.ifCond .eq 10, 3) := by decide +kernel
theorem dX11_isGreater_7 : decode cX11_isGreater 7 = .ok (.iload_n 2, 1) := by decide +kernel
theorem dX11_isGreater_8 : decode cX11_isGreater 8 = .ok (.invokestatic 99, 3) := by decide +kernel
theorem dX11_isGreater_11 : decode cX11_isGreater 11 = .ok (.ifCond .ne 5, 3) := by decide +kernel
theorem dX11_isGreater_14 : decode cX11_isGreater 14 = .ok (.iconst (-1), 1) := by decide +kernel
theorem dX11_isGreater_15 : decode cX11_isGreater 15 = .ok (.ireturn, 1) := by decide +kernel
theorem dX11_isGreater_16 : decode cX11_isGreater 16 = .ok (.aload_n 0, 1) := by decide +kernel
theorem dX11_isGreater_17 : decode cX11_isGreater 17 = .ok (.getfield 12, 3) := by decide +kernel
theorem dX11_isGreater_20 : decode cX11_isGreater 20 = .ok (.iload_n 1, 1) := by decide +kernel
theorem dX11_isGreater_21 : decode cX11_isGreater 21 = .ok (.iload_n 2, 1) := by decide +kernel
theorem dX11_isGreater_22 : decode cX11_isGreater 22 = .ok (.invokevirtual 103, 3) := by decide +kernel
theorem dX11_isGreater_25 : decode cX11_isGreater 25 = .ok (.ifCond .eq 7, 3) := by decide +kernel
theorem dX11_isGreater_28 : decode cX11_isGreater 28 = .ok (.iconst 1, 1) := by decide +kernel
theorem dX11_isGreater_29 : decode cX11_isGreater 29 = .ok (.goto 4, 3) := by decide +kernel
theorem dX11_isGreater_32 : decode cX11_isGreater 32 = .ok (.iconst 0, 1) := by decide +kernel
theorem dX11_isGreater_33 : decode cX11_isGreater 33 = .ok (.ireturn, 1) := by decide +kernel
set_option maxRecDepth 20000 in
theorem ggX11_useNaturalOrder_X2_size : GoodIn wsX11_useNaturalOrder wsX2_size := goodIn_r _ [5, 6, 7, 8, 9, 10, 11, 12, 13, 34, 35] (by decide +kernel) (by decide +kernel)
set_option maxRecDepth 20000 in
theorem gX11_useNaturalOrder_X2_size_n117 : GoodIn wsX11_useNaturalOrder (wsX2_size) := ggX11_useNaturalOrder_X2_size
set_option maxRecDepth 20000 in
theorem ggX11_useNaturalOrder_X2_makeNatural : GoodIn wsX11_useNaturalOrder wsX2_makeNatural := goodIn_r _ [16, 6, 17, 34, 35] (by decide +kernel) (by decide +kernel)
set_option maxRecDepth 20000 in
theorem gX11_useNaturalOrder_X2_makeNatural_n121 : GoodIn wsX11_useNaturalOrder (wsX2_makeNatural) := ggX11_useNaturalOrder_X2_makeNatural
theorem dX11_useNaturalOrder_0 : decode cX11_useNaturalOrder 0 = .ok (.aload_n 0, 1) := by decide +kernel
theorem dX11_useNaturalOrder_1 : decode cX11_useNaturalOrder 1 = .ok (.getfield 12, 3) := by decide +kernel
theorem dX11_useNaturalOrder_4 : decode cX11_useNaturalOrder 4 = .ok (.invokevirtual 117, 3) := by decide +kernel
theorem dX11_useNaturalOrder_7 : decode cX11_useNaturalOrder 7 = .ok (.istore_n 1, 1) := by decide +kernel
theorem dX11_useNaturalOrder_8 : decode cX11_useNaturalOrder 8 = .ok (.aload_n 0, 1) := by decide +kernel
theorem dX11_useNaturalOrder_9 : decode cX11_useNaturalOrder 9 = .ok (.getfield 12, 3) := by decide +kernel
theorem dX11_useNaturalOrder_12 : decode cX11_useNaturalOrder 12 = .ok (.invokevirtual 121, 3) := by decide +kernel
theorem dX11_useNaturalOrder_15 : decode cX11_useNaturalOrder 15 = .ok (.iload_n 1, 1) := by decide +kernel
theorem dX11_useNaturalOrder_16 : decode cX11_useNaturalOrder 16 = .ok (.ireturn, 1) := by decide +kernel
set_option maxRecDepth 20000 in
theorem ggX11_addObject_X3_appendObject : GoodIn wsX11_addObject wsX3_appendObject := goodIn_r _ [5, 6, 7, 24, 25, 26, 27, 28, 29] (by decide +kernel) (by decide +kernel)
set_option maxRecDepth 20000 in
theorem gX11_addObject_X3_appendObject_n124 : GoodIn wsX11_addObject (wsX3_appendObject) := ggX11_addObject_X3_appendObject
theorem dX11_addObject_0 : decode cX11_addObject 0 = .ok (.aload_n 0, 1) := by decide +kernel
theorem dX11_addObject_1 : decode cX11_addObject 1 = .ok (.getfield 19, 3) := by decide +kernel
theorem dX11_addObject_4 : decode cX11_addObject 4 = .ok (.bipush (-2), 2) := by decide +kernel
theorem dX11_addObject_6 : decode cX11_addObject 6 = .ok (.invokevirtual 124, 3) := by decide +kernel
theorem dX11_addObject_9 : decode cX11_addObject 9 = .ok (.ireturn, 1) := by decide +kernel
set_option maxRecDepth 20000 in
theorem ggX11_addStep_X3_hasObject : GoodIn wsX11_addStep wsX3_hasObject := goodIn_r _ [5, 6, 34, 35, 36, 37, 38, 39] (by decide +kernel) (by decide +kernel)
set_option maxRecDepth 20000 in
theorem gX11_addStep_X3_hasObject_n128 : GoodIn wsX11_addStep (wsX3_hasObject) := ggX11_addStep_X3_hasObject
set_option maxRecDepth 20000 in
theorem ggX11_addStep_X11_isLabel : GoodIn wsX11_addStep wsX11_isLabel := goodIn_r _ [10] (by decide +kernel) (by decide +kernel)
set_option maxRecDepth 20000 in
theorem gX11_addStep_X11_isLabel : GoodIn wsX11_addStep (va_wsS RX11 99 yX11_isLabel wsX11_isLabel) := goodIn_app (goodIn_of _ (by decide +kernel)) ggX11_addStep_X11_isLabel
set_option maxRecDepth 20000 in
theorem ggX11_addStep_X3_appendStep : GoodIn wsX11_addStep wsX3_appendStep := goodIn_r _ [13, 14, 15, 16, 17, 34, 35, 36, 37, 38, 39] (by decide +kernel) (by decide +kernel)
set_option maxRecDepth 20000 in
theorem gX11_addStep_X3_appendStep_n131 : GoodIn wsX11_addStep (wsX3_appendStep) := ggX11_addStep_X3_appendStep
theorem dX11_addStep_0 : decode cX11_addStep 0 = .ok (.aload_n 0, 1) := by decide +kernel
theorem dX11_addStep_1 : decode cX11_addStep 1 = .ok (.getfield 19, 3) := by decide +kernel
theorem dX11_addStep_4 : decode cX11_addStep 4 = .ok (.iload_n 1, 1) := by decide +kernel
theorem dX11_addStep_5 : decode cX11_addStep 5 = .ok (.invokevirtual 128, 3) := by decide +kernel
theorem dX11_addStep_8 : decode cX11_addStep 8 = .ok (.ifCond .eq 21, 3) := by decide +kernel
theorem dX11_addStep_11 : decode cX11_addStep 11 = .ok (.aload_n 0, 1) := by decide +kernel
theorem dX11_addStep_12 : decode cX11_addStep 12 = .ok (.getfield 19, 3) := by decide +kernel
theorem dX11_addStep_15 : decode cX11_addStep 15 = .ok (.iload_n 2, 1) := by decide +kernel
theorem dX11_addStep_16 : decode cX11_addStep 16 = .ok (.invokevirtual 128, 3) := by decide +kernel
theorem dX11_addStep_19 : decode cX11_addStep 19 = .ok (.ifCond .eq 10, 3) := by decide +kernel
theorem dX11_addStep_22 : decode cX11_addStep 22 = .ok (.iload_n 3, 1) := by decide +kernel
theorem dX11_addStep_23 : decode cX11_addStep 23 = .ok (.invokestatic 99, 3) := by decide +kernel
theorem dX11_addStep_26 : decode cX11_addStep 26 = .ok (.ifCond .ne 5, 3) := by decide +kernel
theorem dX11_addStep_29 : decode cX11_addStep 29 = .ok (.iconst (-1), 1) := by decide +kernel
theorem dX11_addStep_30 : decode cX11_addStep 30 = .ok (.ireturn, 1) := by decide +kernel
theorem dX11_addStep_31 : decode cX11_addStep 31 = .ok (.aload_n 0, 1) := by decide +kernel
theorem dX11_addStep_32 : decode cX11_addStep 32 = .ok (.getfield 19, 3) := by decide +kernel
theorem dX11_addStep_35 : decode cX11_addStep 35 = .ok (.iload_n 1, 1) := by decide +kernel
theorem dX11_addStep_36 : decode cX11_addStep 36 = .ok (.iload_n 2, 1) := by decide +kernel
theorem dX11_addStep_37 : decode cX11_addStep 37 = .ok (.iload_n 3, 1) := by decide +kernel
theorem dX11_addStep_38 : decode cX11_addStep 38 = .ok (.invokevirtual 131, 3) := by decide +kernel
theorem dX11_addStep_41 : decode cX11_addStep 41 = .ok (.ireturn, 1) := by decide +kernel
set_option maxRecDepth 20000 in
theorem ggX11_removeStep_X3_hasStep : GoodIn wsX11_removeStep wsX3_hasStep := goodIn_r _ [5, 6, 29, 30, 31, 32, 33, 34] (by decide +kernel) (by decide +kernel)
set_option maxRecDepth 20000 in
theorem gX11_removeStep_X3_hasStep_n135 : GoodIn wsX11_removeStep (wsX3_hasStep) := ggX11_removeStep_X3_hasStep
set_option maxRecDepth 20000 in
theorem ggX11_removeStep_X3_dropStep : GoodIn wsX11_removeStep wsX3_dropStep := goodIn_r _ [9, 6, 10, 11, 12, 29, 30, 31, 32, 33, 34] (by decide +kernel) (by decide +kernel)
set_option maxRecDepth 20000 in
theorem gX11_removeStep_X3_dropStep_n138 : GoodIn wsX11_removeStep (wsX3_dropStep) := ggX11_removeStep_X3_dropStep
theorem dX11_removeStep_0 : decode cX11_removeStep 0 = .ok (.aload_n 0, 1) := by decide +kernel
theorem dX11_removeStep_1 : decode cX11_removeStep 1 = .ok (.getfield 19, 3) := by decide +kernel
theorem dX11_removeStep_4 : decode cX11_removeStep 4 = .ok (.iload_n 1, 1) := by decide +kernel
theorem dX11_removeStep_5 : decode cX11_removeStep 5 = .ok (.invokevirtual 135, 3) := by decide +kernel
theorem dX11_removeStep_8 : decode cX11_removeStep 8 = .ok (.ifCond .ne 5, 3) := by decide +kernel
theorem dX11_removeStep_11 : decode cX11_removeStep 11 = .ok (.iconst (-1), 1) := by decide +kernel
theorem dX11_removeStep_12 : decode cX11_removeStep 12 = .ok (.ireturn, 1) := by decide +kernel
theorem dX11_removeStep_13 : decode cX11_removeStep 13 = .ok (.aload_n 0, 1) := by decide +kernel
theorem dX11_removeStep_14 : decode cX11_removeStep 14 = .ok (.getfield 19, 3) := by decide +kernel
theorem dX11_removeStep_17 : decode cX11_removeStep 17 = .ok (.iload_n 1, 1) := by decide +kernel
theorem dX11_removeStep_18 : decode cX11_removeStep 18 = .ok (.invokevirtual 138, 3) := by decide +kernel
theorem dX11_removeStep_21 : decode cX11_removeStep 21 = .ok (.aload_n 0, 1) := by decide +kernel
theorem dX11_removeStep_22 : decode cX11_removeStep 22 = .ok (.getfield 19, 3) := by decide +kernel
theorem dX11_removeStep_25 : decode cX11_removeStep 25 = .ok (.getfield 142, 3) := by decide +kernel
theorem dX11_removeStep_28 : decode cX11_removeStep 28 = .ok (.ireturn, 1) := by decide +kernel
set_option maxRecDepth 20000 in
theorem ggX11_setLabel_X3_hasStep : GoodIn wsX11_setLabel wsX3_hasStep := goodIn_r _ [5, 6, 27, 28, 29, 30, 31, 32] (by decide +kernel) (by decide +kernel)
set_option maxRecDepth 20000 in
theorem gX11_setLabel_X3_hasStep_n135 : GoodIn wsX11_setLabel (wsX3_hasStep) := ggX11_setLabel_X3_hasStep
set_option maxRecDepth 20000 in
theorem ggX11_setLabel_X11_isLabel : GoodIn wsX11_setLabel wsX11_isLabel := goodIn_r _ [10] (by decide +kernel) (by decide +kernel)
set_option maxRecDepth 20000 in
theorem gX11_setLabel_X11_isLabel : GoodIn wsX11_setLabel (va_wsS RX11 99 yX11_isLabel wsX11_isLabel) := goodIn_app (goodIn_of _ (by decide +kernel)) ggX11_setLabel_X11_isLabel
theorem dX11_setLabel_0 : decode cX11_setLabel 0 = .ok (.aload_n 0, 1) := by decide +kernel
theorem dX11_setLabel_1 : decode cX11_setLabel 1 = .ok (.getfield 19, 3) := by decide +kernel
theorem dX11_setLabel_4 : decode cX11_setLabel 4 = .ok (.iload_n 1, 1) := by decide +kernel
theorem dX11_setLabel_5 : decode cX11_setLabel 5 = .ok (.invokevirtual 135, 3) := by decide +kernel
theorem dX11_setLabel_8 : decode cX11_setLabel 8 = .ok (.ifCond .eq 10, 3) := by decide +kernel
theorem dX11_setLabel_11 : decode cX11_setLabel 11 = .ok (.iload_n 2, 1) := by decide +kernel
theorem dX11_setLabel_12 : decode cX11_setLabel 12 = .ok (.invokestatic 99, 3) := by decide +kernel
theorem dX11_setLabel_15 : decode cX11_setLabel 15 = .ok (.ifCond .ne 5, 3) := by decide +kernel
theorem dX11_setLabel_18 : decode cX11_setLabel 18 = .ok (.iconst (-1), 1) := by decide +kernel
theorem dX11_setLabel_19 : decode cX11_setLabel 19 = .ok (.ireturn, 1) := by decide +kernel
theorem dX11_setLabel_20 : decode cX11_setLabel 20 = .ok (.aload_n 0, 1) := by decide +kernel
theorem dX11_setLabel_21 : decode cX11_setLabel 21 = .ok (.getfield 19, 3) := by decide +kernel
theorem dX11_setLabel_24 : decode cX11_setLabel 24 = .ok (.getfield 146, 3) := by decide +kernel
theorem dX11_setLabel_27 : decode cX11_setLabel 27 = .ok (.iload_n 1, 1) := by decide +kernel
theorem dX11_setLabel_28 : decode cX11_setLabel 28 = .ok (.iaload, 1) := by decide +kernel
theorem dX11_setLabel_29 : decode cX11_setLabel 29 = .ok (.istore_n 3, 1) := by decide +kernel
theorem dX11_setLabel_30 : decode cX11_setLabel 30 = .ok (.aload_n 0, 1) := by decide +kernel
theorem dX11_setLabel_31 : decode cX11_setLabel 31 = .ok (.getfield 19, 3) := by decide +kernel
theorem dX11_setLabel_34 : decode cX11_setLabel 34 = .ok (.getfield 146, 3) := by decide +kernel
theorem dX11_setLabel_37 : decode cX11_setLabel 37 = .ok (.iload_n 1, 1) := by decide +kernel
theorem dX11_setLabel_38 : decode cX11_setLabel 38 = .ok (.iload_n 2, 1) := by decide +kernel
theorem dX11_setLabel_39 : decode cX11_setLabel 39 = .ok (.iastore, 1) := by decide +kernel
theorem dX11_setLabel_40 : decode cX11_setLabel 40 = .ok (.iload_n 3, 1) := by decide +kernel
theorem dX11_setLabel_41 : decode cX11_setLabel 41 = .ok (.ireturn, 1) := by decide +kernel
set_option maxRecDepth 20000 in
theorem ggX11_clearSystem_X3_clear : GoodIn wsX11_clearSystem wsX3_clear := goodIn_r _ [5, 6, 7, 24, 25, 26, 27, 28, 29] (by decide +kernel) (by decide +kernel)
set_option maxRecDepth 20000 in
theorem gX11_clearSystem_X3_clear_n152 : GoodIn wsX11_clearSystem (wsX3_clear) := ggX11_clearSystem_X3_clear
theorem dX11_clearSystem_0 : decode cX11_clearSystem 0 = .ok (.aload_n 0, 1) := by decide +kernel
theorem dX11_clearSystem_1 : decode cX11_clearSystem 1 = .ok (.getfield 19, 3) := by decide +kernel
theorem dX11_clearSystem_4 : decode cX11_clearSystem 4 = .ok (.getfield 149, 3) := by decide +kernel
theorem dX11_clearSystem_7 : decode cX11_clearSystem 7 = .ok (.istore_n 1, 1) := by decide +kernel
theorem dX11_clearSystem_8 : decode cX11_clearSystem 8 = .ok (.aload_n 0, 1) := by decide +kernel
theorem dX11_clearSystem_9 : decode cX11_clearSystem 9 = .ok (.getfield 19, 3) := by decide +kernel
theorem dX11_clearSystem_12 : decode cX11_clearSystem 12 = .ok (.invokevirtual 152, 3) := by decide +kernel
theorem dX11_clearSystem_15 : decode cX11_clearSystem 15 = .ok (.iload_n 1, 1) := by decide +kernel
theorem dX11_clearSystem_16 : decode cX11_clearSystem 16 = .ok (.ireturn, 1) := by decide +kernel
theorem dX11_objectCount_0 : decode cX11_objectCount 0 = .ok (.aload_n 0, 1) := by decide +kernel
theorem dX11_objectCount_1 : decode cX11_objectCount 1 = .ok (.getfield 19, 3) := by decide +kernel
theorem dX11_objectCount_4 : decode cX11_objectCount 4 = .ok (.getfield 149, 3) := by decide +kernel
theorem dX11_objectCount_7 : decode cX11_objectCount 7 = .ok (.ireturn, 1) := by decide +kernel
theorem dX11_stepCount_0 : decode cX11_stepCount 0 = .ok (.aload_n 0, 1) := by decide +kernel
theorem dX11_stepCount_1 : decode cX11_stepCount 1 = .ok (.getfield 19, 3) := by decide +kernel
theorem dX11_stepCount_4 : decode cX11_stepCount 4 = .ok (.getfield 142, 3) := by decide +kernel
theorem dX11_stepCount_7 : decode cX11_stepCount 7 = .ok (.ireturn, 1) := by decide +kernel
set_option maxRecDepth 20000 in
theorem ggX11_source_X3_hasStep : GoodIn wsX11_source wsX3_hasStep := goodIn_r _ [5, 6, 23, 24, 25, 26, 27, 28] (by decide +kernel) (by decide +kernel)
set_option maxRecDepth 20000 in
theorem gX11_source_X3_hasStep_n135 : GoodIn wsX11_source (wsX3_hasStep) := ggX11_source_X3_hasStep
theorem dX11_source_0 : decode cX11_source 0 = .ok (.aload_n 0, 1) := by decide +kernel
theorem dX11_source_1 : decode cX11_source 1 = .ok (.getfield 19, 3) := by decide +kernel
theorem dX11_source_4 : decode cX11_source 4 = .ok (.iload_n 1, 1) := by decide +kernel
theorem dX11_source_5 : decode cX11_source 5 = .ok (.invokevirtual 135, 3) := by decide +kernel
theorem dX11_source_8 : decode cX11_source 8 = .ok (.ifCond .eq 15, 3) := by decide +kernel
theorem dX11_source_11 : decode cX11_source 11 = .ok (.aload_n 0, 1) := by decide +kernel
theorem dX11_source_12 : decode cX11_source 12 = .ok (.getfield 19, 3) := by decide +kernel
theorem dX11_source_15 : decode cX11_source 15 = .ok (.getfield 155, 3) := by decide +kernel
theorem dX11_source_18 : decode cX11_source 18 = .ok (.iload_n 1, 1) := by decide +kernel
theorem dX11_source_19 : decode cX11_source 19 = .ok (.iaload, 1) := by decide +kernel
theorem dX11_source_20 : decode cX11_source 20 = .ok (.goto 4, 3) := by decide +kernel
theorem dX11_source_23 : decode cX11_source 23 = .ok (.iconst (-1), 1) := by decide +kernel
theorem dX11_source_24 : decode cX11_source 24 = .ok (.ireturn, 1) := by decide +kernel
set_option maxRecDepth 20000 in
theorem ggX11_target_X3_hasStep : GoodIn wsX11_target wsX3_hasStep := goodIn_r _ [5, 6, 23, 24, 25, 26, 27, 28] (by decide +kernel) (by decide +kernel)
set_option maxRecDepth 20000 in
theorem gX11_target_X3_hasStep_n135 : GoodIn wsX11_target (wsX3_hasStep) := ggX11_target_X3_hasStep
theorem dX11_target_0 : decode cX11_target 0 = .ok (.aload_n 0, 1) := by decide +kernel
theorem dX11_target_1 : decode cX11_target 1 = .ok (.getfield 19, 3) := by decide +kernel
theorem dX11_target_4 : decode cX11_target 4 = .ok (.iload_n 1, 1) := by decide +kernel
theorem dX11_target_5 : decode cX11_target 5 = .ok (.invokevirtual 135, 3) := by decide +kernel
theorem dX11_target_8 : decode cX11_target 8 = .ok (.ifCond .eq 15, 3) := by decide +kernel
theorem dX11_target_11 : decode cX11_target 11 = .ok (.aload_n 0, 1) := by decide +kernel
theorem dX11_target_12 : decode cX11_target 12 = .ok (.getfield 19, 3) := by decide +kernel
theorem dX11_target_15 : decode cX11_target 15 = .ok (.getfield 158, 3) := by decide +kernel
theorem dX11_target_18 : decode cX11_target 18 = .ok (.iload_n 1, 1) := by decide +kernel
theorem dX11_target_19 : decode cX11_target 19 = .ok (.iaload, 1) := by decide +kernel
theorem dX11_target_20 : decode cX11_target 20 = .ok (.goto 4, 3) := by decide +kernel
theorem dX11_target_23 : decode cX11_target 23 = .ok (.iconst (-1), 1) := by decide +kernel
theorem dX11_target_24 : decode cX11_target 24 = .ok (.ireturn, 1) := by decide +kernel
set_option maxRecDepth 20000 in
theorem ggX11_label_X3_hasStep : GoodIn wsX11_label wsX3_hasStep := goodIn_r _ [5, 6, 23, 24, 25, 26, 27, 28] (by decide +kernel) (by decide +kernel)
set_option maxRecDepth 20000 in
theorem gX11_label_X3_hasStep_n135 : GoodIn wsX11_label (wsX3_hasStep) := ggX11_label_X3_hasStep
theorem dX11_label_0 : decode cX11_label 0 = .ok (.aload_n 0, 1) := by decide +kernel
theorem dX11_label_1 : decode cX11_label 1 = .ok (.getfield 19, 3) := by decide +kernel
theorem dX11_label_4 : decode cX11_label 4 = .ok (.iload_n 1, 1) := by decide +kernel
theorem dX11_label_5 : decode cX11_label 5 = .ok (.invokevirtual 135, 3) := by decide +kernel
theorem dX11_label_8 : decode cX11_label 8 = .ok (.ifCond .eq 15, 3) := by decide +kernel
theorem dX11_label_11 : decode cX11_label 11 = .ok (.aload_n 0, 1) := by decide +kernel
theorem dX11_label_12 : decode cX11_label 12 = .ok (.getfield 19, 3) := by decide +kernel
theorem dX11_label_15 : decode cX11_label 15 = .ok (.getfield 146, 3) := by decide +kernel
theorem dX11_label_18 : decode cX11_label 18 = .ok (.iload_n 1, 1) := by decide +kernel
theorem dX11_label_19 : decode cX11_label 19 = .ok (.iaload, 1) := by decide +kernel
theorem dX11_label_20 : decode cX11_label 20 = .ok (.goto 4, 3) := by decide +kernel
theorem dX11_label_23 : decode cX11_label 23 = .ok (.iconst (-1), 1) := by decide +kernel
theorem dX11_label_24 : decode cX11_label 24 = .ok (.ireturn, 1) := by decide +kernel
set_option maxRecDepth 20000 in
theorem ggX11_distance_X3_hasObject : GoodIn wsX11_distance wsX3_hasObject := goodIn_r _ [5, 6, 34, 35, 36, 37, 38, 39] (by decide +kernel) (by decide +kernel)
set_option maxRecDepth 20000 in
theorem gX11_distance_X3_hasObject_n128 : GoodIn wsX11_distance (wsX3_hasObject) := ggX11_distance_X3_hasObject
set_option maxRecDepth 20000 in
theorem ggX11_distance_X11_isIn : GoodIn wsX11_distance wsX11_isIn := goodIn_r _ [10] (by decide +kernel) (by decide +kernel)
set_option maxRecDepth 20000 in
theorem gX11_distance_X11_isIn : GoodIn wsX11_distance (va_wsS RX11 161 yX11_isIn wsX11_isIn) := goodIn_app (goodIn_of _ (by decide +kernel)) ggX11_distance_X11_isIn
set_option maxRecDepth 20000 in
theorem ggX11_distance_X3_successors : GoodIn wsX11_distance wsX3_successors := goodIn_r _ [13, 14, 15, 16, 17, 34, 35, 36, 37, 38, 39] (by decide +kernel) (by decide +kernel)
set_option maxRecDepth 20000 in
theorem gX11_distance_X3_successors_n164 : GoodIn wsX11_distance (wsX3_successors) := ggX11_distance_X3_successors
theorem dX11_distance_0 : decode cX11_distance 0 = .ok (.aload_n 0, 1) := by decide +kernel
theorem dX11_distance_1 : decode cX11_distance 1 = .ok (.getfield 19, 3) := by decide +kernel
theorem dX11_distance_4 : decode cX11_distance 4 = .ok (.iload_n 1, 1) := by decide +kernel
theorem dX11_distance_5 : decode cX11_distance 5 = .ok (.invokevirtual 128, 3) := by decide +kernel
theorem dX11_distance_8 : decode cX11_distance 8 = .ok (.ifCond .eq 14, 3) := by decide +kernel
theorem dX11_distance_11 : decode cX11_distance 11 = .ok (.aload_n 0, 1) := by decide +kernel
theorem dX11_distance_12 : decode cX11_distance 12 = .ok (.getfield 19, 3) := by decide +kernel
theorem dX11_distance_15 : decode cX11_distance 15 = .ok (.iload_n 2, 1) := by decide +kernel
theorem dX11_distance_16 : decode cX11_distance 16 = .ok (.invokevirtual 128, 3) := by decide +kernel
theorem dX11_distance_19 : decode cX11_distance 19 = .ok (.ifCond .ne 5, 3) := by decide +kernel
theorem dX11_distance_22 : decode cX11_distance 22 = .ok (.iconst (-1), 1) := by decide +kernel
theorem dX11_distance_23 : decode cX11_distance 23 = .ok (.ireturn, 1) := by decide +kernel
theorem dX11_distance_24 : decode cX11_distance 24 = .ok (.iconst 1, 1) := by decide +kernel
theorem dX11_distance_25 : decode cX11_distance 25 = .ok (.iload_n 1, 1) := by decide +kernel
theorem dX11_distance_26 : decode cX11_distance 26 = .ok (.ishl, 1) := by decide +kernel
theorem dX11_distance_27 : decode cX11_distance 27 = .ok (.istore_n 3, 1) := by decide +kernel
theorem dX11_distance_28 : decode cX11_distance 28 = .ok (.iconst 0, 1) := by decide +kernel
theorem dX11_distance_29 : decode cX11_distance 29 = .ok (.istore 4, 2) := by decide +kernel
theorem dX11_distance_31 : decode cX11_distance 31 = .ok (.iload 4, 2) := by decide +kernel
theorem dX11_distance_33 : decode cX11_distance 33 = .ok (.aload_n 0, 1) := by decide +kernel
theorem dX11_distance_34 : decode cX11_distance 34 = .ok (.getfield 19, 3) := by decide +kernel
theorem dX11_distance_37 : decode cX11_distance 37 = .ok (.getfield 149, 3) := by decide +kernel
theorem dX11_distance_40 : decode cX11_distance 40 = .ok (.if_icmp .ge 32, 3) := by decide +kernel
theorem dX11_distance_43 : decode cX11_distance 43 = .ok (.iload_n 3, 1) := by decide +kernel
theorem dX11_distance_44 : decode cX11_distance 44 = .ok (.iload_n 2, 1) := by decide +kernel
theorem dX11_distance_45 : decode cX11_distance 45 = .ok (.invokestatic 161, 3) := by decide +kernel
theorem dX11_distance_48 : decode cX11_distance 48 = .ok (.ifCond .eq 6, 3) := by decide +kernel
theorem dX11_distance_51 : decode cX11_distance 51 = .ok (.iload 4, 2) := by decide +kernel
theorem dX11_distance_53 : decode cX11_distance 53 = .ok (.ireturn, 1) := by decide +kernel
theorem dX11_distance_54 : decode cX11_distance 54 = .ok (.aload_n 0, 1) := by decide +kernel
theorem dX11_distance_55 : decode cX11_distance 55 = .ok (.getfield 19, 3) := by decide +kernel
theorem dX11_distance_58 : decode cX11_distance 58 = .ok (.iload_n 3, 1) := by decide +kernel
theorem dX11_distance_59 : decode cX11_distance 59 = .ok (.sipush 255, 3) := by decide +kernel
theorem dX11_distance_62 : decode cX11_distance 62 = .ok (.invokevirtual 164, 3) := by decide +kernel
theorem dX11_distance_65 : decode cX11_distance 65 = .ok (.istore_n 3, 1) := by decide +kernel
theorem dX11_distance_66 : decode cX11_distance 66 = .ok (.iinc 4 1, 3) := by decide +kernel
theorem dX11_distance_69 : decode cX11_distance 69 = .ok (.goto (-38), 3) := by decide +kernel
theorem dX11_distance_72 : decode cX11_distance 72 = .ok (.bipush (-2), 2) := by decide +kernel
theorem dX11_distance_74 : decode cX11_distance 74 = .ok (.ireturn, 1) := by decide +kernel
set_option maxRecDepth 20000 in
theorem ggX11_reachable_X3_hasObject : GoodIn wsX11_reachable wsX3_hasObject := goodIn_r _ [5, 6, 34, 35, 36, 37, 38, 39] (by decide +kernel) (by decide +kernel)
set_option maxRecDepth 20000 in
theorem gX11_reachable_X3_hasObject_n128 : GoodIn wsX11_reachable (wsX3_hasObject) := ggX11_reachable_X3_hasObject
set_option maxRecDepth 20000 in
theorem ggX11_reachable_X3_closure : GoodIn wsX11_reachable wsX3_closure := goodIn_r _ [9, 6, 10, 11, 12, 3, 13, 14, 15, 16, 17, 34, 35, 36, 37, 38, 39] (by decide +kernel) (by decide +kernel)
set_option maxRecDepth 20000 in
theorem gX11_reachable_X3_closure_n168 : GoodIn wsX11_reachable (wsX3_closure) := ggX11_reachable_X3_closure
theorem dX11_reachable_0 : decode cX11_reachable 0 = .ok (.aload_n 0, 1) := by decide +kernel
theorem dX11_reachable_1 : decode cX11_reachable 1 = .ok (.getfield 19, 3) := by decide +kernel
theorem dX11_reachable_4 : decode cX11_reachable 4 = .ok (.iload_n 1, 1) := by decide +kernel
theorem dX11_reachable_5 : decode cX11_reachable 5 = .ok (.invokevirtual 128, 3) := by decide +kernel
theorem dX11_reachable_8 : decode cX11_reachable 8 = .ok (.ifCond .eq 19, 3) := by decide +kernel
theorem dX11_reachable_11 : decode cX11_reachable 11 = .ok (.aload_n 0, 1) := by decide +kernel
theorem dX11_reachable_12 : decode cX11_reachable 12 = .ok (.getfield 19, 3) := by decide +kernel
theorem dX11_reachable_15 : decode cX11_reachable 15 = .ok (.iconst 1, 1) := by decide +kernel
theorem dX11_reachable_16 : decode cX11_reachable 16 = .ok (.iload_n 1, 1) := by decide +kernel
theorem dX11_reachable_17 : decode cX11_reachable 17 = .ok (.ishl, 1) := by decide +kernel
theorem dX11_reachable_18 : decode cX11_reachable 18 = .ok (.sipush 255, 3) := by decide +kernel
theorem dX11_reachable_21 : decode cX11_reachable 21 = .ok (.invokevirtual 168, 3) := by decide +kernel
theorem dX11_reachable_24 : decode cX11_reachable 24 = .ok (.goto 4, 3) := by decide +kernel
theorem dX11_reachable_27 : decode cX11_reachable 27 = .ok (.iconst (-1), 1) := by decide +kernel
theorem dX11_reachable_28 : decode cX11_reachable 28 = .ok (.ireturn, 1) := by decide +kernel
set_option maxRecDepth 20000 in
theorem ggX11_normalForm_X3_hasObject : GoodIn wsX11_normalForm wsX3_hasObject := goodIn_r _ [5, 6, 48, 49, 50, 51, 52, 53] (by decide +kernel) (by decide +kernel)
set_option maxRecDepth 20000 in
theorem gX11_normalForm_X3_hasObject_n128 : GoodIn wsX11_normalForm (wsX3_hasObject) := ggX11_normalForm_X3_hasObject
set_option maxRecDepth 20000 in
theorem ggX11_normalForm_X3_closure : GoodIn wsX11_normalForm wsX3_closure := goodIn_r _ [9, 6, 10, 11, 12, 3, 13, 14, 15, 16, 17, 48, 49, 50, 51, 52, 53] (by decide +kernel) (by decide +kernel)
set_option maxRecDepth 20000 in
theorem gX11_normalForm_X3_closure_n168 : GoodIn wsX11_normalForm (wsX3_closure) := ggX11_normalForm_X3_closure
set_option maxRecDepth 20000 in
theorem ggX11_normalForm_X3_normalForms : GoodIn wsX11_normalForm wsX3_normalForms := goodIn_r _ [20, 6, 14, 15, 48, 49, 50, 51, 52, 53] (by decide +kernel) (by decide +kernel)
set_option maxRecDepth 20000 in
theorem gX11_normalForm_X3_normalForms_n171 : GoodIn wsX11_normalForm (wsX3_normalForms) := ggX11_normalForm_X3_normalForms
set_option maxRecDepth 20000 in
theorem ggX11_normalForm_J6_bitCount_0f7a4 : GoodIn wsX11_normalForm wsJ6_bitCount_0f7a4 := goodIn_r _ [24, 25, 26, 27] (by decide +kernel) (by decide +kernel)
set_option maxRecDepth 20000 in
theorem gX11_normalForm_J6_bitCount_0f7a4 : GoodIn wsX11_normalForm (va_wsS RX11 174 yJ6_bitCount_0f7a4 wsJ6_bitCount_0f7a4) := goodIn_app (goodIn_of _ (by decide +kernel)) ggX11_normalForm_J6_bitCount_0f7a4
set_option maxRecDepth 20000 in
theorem ggX11_normalForm_X11_lowestMember : GoodIn wsX11_normalForm wsX11_lowestMember := goodIn_r _ [31, 21, 22, 23, 24, 25, 26, 27] (by decide +kernel) (by decide +kernel)
set_option maxRecDepth 20000 in
theorem gX11_normalForm_X11_lowestMember : GoodIn wsX11_normalForm (va_wsS RX11 179 yX11_lowestMember wsX11_lowestMember) := goodIn_app (goodIn_of _ (by decide +kernel)) ggX11_normalForm_X11_lowestMember
theorem dX11_normalForm_0 : decode cX11_normalForm 0 = .ok (.aload_n 0, 1) := by decide +kernel
theorem dX11_normalForm_1 : decode cX11_normalForm 1 = .ok (.getfield 19, 3) := by decide +kernel
theorem dX11_normalForm_4 : decode cX11_normalForm 4 = .ok (.iload_n 1, 1) := by decide +kernel
theorem dX11_normalForm_5 : decode cX11_normalForm 5 = .ok (.invokevirtual 128, 3) := by decide +kernel
theorem dX11_normalForm_8 : decode cX11_normalForm 8 = .ok (.ifCond .ne 5, 3) := by decide +kernel
theorem dX11_normalForm_11 : decode cX11_normalForm 11 = .ok (.iconst (-1), 1) := by decide +kernel
theorem dX11_normalForm_12 : decode cX11_normalForm 12 = .ok (.ireturn, 1) := by decide +kernel
theorem dX11_normalForm_13 : decode cX11_normalForm 13 = .ok (.aload_n 0, 1) := by decide +kernel
theorem dX11_normalForm_14 : decode cX11_normalForm 14 = .ok (.getfield 19, 3) := by decide +kernel
theorem dX11_normalForm_17 : decode cX11_normalForm 17 = .ok (.iconst 1, 1) := by decide +kernel
theorem dX11_normalForm_18 : decode cX11_normalForm 18 = .ok (.iload_n 1, 1) := by decide +kernel
theorem dX11_normalForm_19 : decode cX11_normalForm 19 = .ok (.ishl, 1) := by decide +kernel
theorem dX11_normalForm_20 : decode cX11_normalForm 20 = .ok (.sipush 255, 3) := by decide +kernel
theorem dX11_normalForm_23 : decode cX11_normalForm 23 = .ok (.invokevirtual 168, 3) := by decide +kernel
theorem dX11_normalForm_26 : decode cX11_normalForm 26 = .ok (.aload_n 0, 1) := by decide +kernel
theorem dX11_normalForm_27 : decode cX11_normalForm 27 = .ok (.getfield 19, 3) := by decide +kernel
theorem dX11_normalForm_30 : decode cX11_normalForm 30 = .ok (.invokevirtual 171, 3) := by decide +kernel
theorem dX11_normalForm_33 : decode cX11_normalForm 33 = .ok (.iand, 1) := by decide +kernel
theorem dX11_normalForm_34 : decode cX11_normalForm 34 = .ok (.istore_n 2, 1) := by decide +kernel
theorem dX11_normalForm_35 : decode cX11_normalForm 35 = .ok (.iload_n 2, 1) := by decide +kernel
theorem dX11_normalForm_36 : decode cX11_normalForm 36 = .ok (.ifCond .ne 6, 3) := by decide +kernel
theorem dX11_normalForm_39 : decode cX11_normalForm 39 = .ok (.bipush (-2), 2) := by decide +kernel
theorem dX11_normalForm_41 : decode cX11_normalForm 41 = .ok (.ireturn, 1) := by decide +kernel
theorem dX11_normalForm_42 : decode cX11_normalForm 42 = .ok (.iload_n 2, 1) := by decide +kernel
theorem dX11_normalForm_43 : decode cX11_normalForm 43 = .ok (.invokestatic 174, 3) := by decide +kernel
theorem dX11_normalForm_46 : decode cX11_normalForm 46 = .ok (.iconst 1, 1) := by decide +kernel
theorem dX11_normalForm_47 : decode cX11_normalForm 47 = .ok (.if_icmp .le 8, 3) := by decide +kernel
theorem dX11_normalForm_50 : decode cX11_normalForm 50 = .ok (.bipush (-7), 2) := by decide +kernel
theorem dX11_normalForm_52 : decode cX11_normalForm 52 = .ok (.goto 7, 3) := by decide +kernel
theorem dX11_normalForm_55 : decode cX11_normalForm 55 = .ok (.iload_n 2, 1) := by decide +kernel
theorem dX11_normalForm_56 : decode cX11_normalForm 56 = .ok (.invokestatic 179, 3) := by decide +kernel
theorem dX11_normalForm_59 : decode cX11_normalForm 59 = .ok (.ireturn, 1) := by decide +kernel
set_option maxRecDepth 20000 in
theorem ggX11_component_X3_hasObject : GoodIn wsX11_component wsX3_hasObject := goodIn_r _ [5, 6, 42, 43, 44, 45, 46, 47] (by decide +kernel) (by decide +kernel)
set_option maxRecDepth 20000 in
theorem gX11_component_X3_hasObject_n128 : GoodIn wsX11_component (wsX3_hasObject) := ggX11_component_X3_hasObject
set_option maxRecDepth 20000 in
theorem ggX11_component_X3_convertible : GoodIn wsX11_component wsX3_convertible := goodIn_r _ [9, 6, 10, 11, 12, 13, 14, 15, 42, 43, 44, 45, 46, 47] (by decide +kernel) (by decide +kernel)
set_option maxRecDepth 20000 in
theorem gX11_component_X3_convertible_n182 : GoodIn wsX11_component (wsX3_convertible) := ggX11_component_X3_convertible
set_option maxRecDepth 20000 in
theorem ggX11_component_X11_lowestMember : GoodIn wsX11_component wsX11_lowestMember := goodIn_r _ [18, 19, 20, 21, 22, 23, 24, 25] (by decide +kernel) (by decide +kernel)
set_option maxRecDepth 20000 in
theorem gX11_component_X11_lowestMember : GoodIn wsX11_component (va_wsS RX11 179 yX11_lowestMember wsX11_lowestMember) := goodIn_app (goodIn_of _ (by decide +kernel)) ggX11_component_X11_lowestMember
theorem dX11_component_0 : decode cX11_component 0 = .ok (.aload_n 0, 1) := by decide +kernel
theorem dX11_component_1 : decode cX11_component 1 = .ok (.getfield 19, 3) := by decide +kernel
theorem dX11_component_4 : decode cX11_component 4 = .ok (.iload_n 1, 1) := by decide +kernel
theorem dX11_component_5 : decode cX11_component 5 = .ok (.invokevirtual 128, 3) := by decide +kernel
theorem dX11_component_8 : decode cX11_component 8 = .ok (.ifCond .eq 17, 3) := by decide +kernel
theorem dX11_component_11 : decode cX11_component 11 = .ok (.aload_n 0, 1) := by decide +kernel
theorem dX11_component_12 : decode cX11_component 12 = .ok (.getfield 19, 3) := by decide +kernel
theorem dX11_component_15 : decode cX11_component 15 = .ok (.iload_n 1, 1) := by decide +kernel
theorem dX11_component_16 : decode cX11_component 16 = .ok (.invokevirtual 182, 3) := by decide +kernel
theorem dX11_component_19 : decode cX11_component 19 = .ok (.invokestatic 179, 3) := by decide +kernel
theorem dX11_component_22 : decode cX11_component 22 = .ok (.goto 4, 3) := by decide +kernel
theorem dX11_component_25 : decode cX11_component 25 = .ok (.iconst (-1), 1) := by decide +kernel
theorem dX11_component_26 : decode cX11_component 26 = .ok (.ireturn, 1) := by decide +kernel
set_option maxRecDepth 20000 in
theorem ggX11_isTerminating_X3_longestFrom : GoodIn wsX11_isTerminating wsX3_longestFrom := goodIn_r _ [5, 6, 7, 8, 9, 3, 10, 11, 12, 13, 14, 31, 32, 33, 34, 35, 36] (by decide +kernel) (by decide +kernel)
set_option maxRecDepth 20000 in
theorem gX11_isTerminating_X3_longestFrom_n185 : GoodIn wsX11_isTerminating (wsX3_longestFrom) := ggX11_isTerminating_X3_longestFrom
theorem dX11_isTerminating_0 : decode cX11_isTerminating 0 = .ok (.iconst 1, 1) := by decide +kernel
theorem dX11_isTerminating_1 : decode cX11_isTerminating 1 = .ok (.aload_n 0, 1) := by decide +kernel
theorem dX11_isTerminating_2 : decode cX11_isTerminating 2 = .ok (.getfield 19, 3) := by decide +kernel
theorem dX11_isTerminating_5 : decode cX11_isTerminating 5 = .ok (.getfield 149, 3) := by decide +kernel
theorem dX11_isTerminating_8 : decode cX11_isTerminating 8 = .ok (.ishl, 1) := by decide +kernel
theorem dX11_isTerminating_9 : decode cX11_isTerminating 9 = .ok (.iconst 1, 1) := by decide +kernel
theorem dX11_isTerminating_10 : decode cX11_isTerminating 10 = .ok (.isub, 1) := by decide +kernel
theorem dX11_isTerminating_11 : decode cX11_isTerminating 11 = .ok (.istore_n 1, 1) := by decide +kernel
theorem dX11_isTerminating_12 : decode cX11_isTerminating 12 = .ok (.aload_n 0, 1) := by decide +kernel
theorem dX11_isTerminating_13 : decode cX11_isTerminating 13 = .ok (.getfield 19, 3) := by decide +kernel
theorem dX11_isTerminating_16 : decode cX11_isTerminating 16 = .ok (.iload_n 1, 1) := by decide +kernel
theorem dX11_isTerminating_17 : decode cX11_isTerminating 17 = .ok (.invokevirtual 185, 3) := by decide +kernel
theorem dX11_isTerminating_20 : decode cX11_isTerminating 20 = .ok (.bipush (-2), 2) := by decide +kernel
theorem dX11_isTerminating_22 : decode cX11_isTerminating 22 = .ok (.if_icmp .ne 7, 3) := by decide +kernel
theorem dX11_isTerminating_25 : decode cX11_isTerminating 25 = .ok (.iconst 0, 1) := by decide +kernel
theorem dX11_isTerminating_26 : decode cX11_isTerminating 26 = .ok (.goto 4, 3) := by decide +kernel
theorem dX11_isTerminating_29 : decode cX11_isTerminating 29 = .ok (.iconst 1, 1) := by decide +kernel
theorem dX11_isTerminating_30 : decode cX11_isTerminating 30 = .ok (.ireturn, 1) := by decide +kernel
set_option maxRecDepth 20000 in
theorem ggX11_longestPath_X3_hasObject : GoodIn wsX11_longestPath wsX3_hasObject := goodIn_r _ [5, 6, 34, 35, 36, 37, 38, 39] (by decide +kernel) (by decide +kernel)
set_option maxRecDepth 20000 in
theorem gX11_longestPath_X3_hasObject_n128 : GoodIn wsX11_longestPath (wsX3_hasObject) := ggX11_longestPath_X3_hasObject
set_option maxRecDepth 20000 in
theorem ggX11_longestPath_X3_longestFrom : GoodIn wsX11_longestPath wsX3_longestFrom := goodIn_r _ [9, 6, 10, 11, 12, 3, 13, 14, 15, 16, 17, 34, 35, 36, 37, 38, 39] (by decide +kernel) (by decide +kernel)
set_option maxRecDepth 20000 in
theorem gX11_longestPath_X3_longestFrom_n185 : GoodIn wsX11_longestPath (wsX3_longestFrom) := ggX11_longestPath_X3_longestFrom
theorem dX11_longestPath_0 : decode cX11_longestPath 0 = .ok (.aload_n 0, 1) := by decide +kernel
theorem dX11_longestPath_1 : decode cX11_longestPath 1 = .ok (.getfield 19, 3) := by decide +kernel
theorem dX11_longestPath_4 : decode cX11_longestPath 4 = .ok (.iload_n 1, 1) := by decide +kernel
theorem dX11_longestPath_5 : decode cX11_longestPath 5 = .ok (.invokevirtual 128, 3) := by decide +kernel
theorem dX11_longestPath_8 : decode cX11_longestPath 8 = .ok (.ifCond .eq 16, 3) := by decide +kernel
theorem dX11_longestPath_11 : decode cX11_longestPath 11 = .ok (.aload_n 0, 1) := by decide +kernel
theorem dX11_longestPath_12 : decode cX11_longestPath 12 = .ok (.getfield 19, 3) := by decide +kernel
theorem dX11_longestPath_15 : decode cX11_longestPath 15 = .ok (.iconst 1, 1) := by decide +kernel
theorem dX11_longestPath_16 : decode cX11_longestPath 16 = .ok (.iload_n 1, 1) := by decide +kernel
theorem dX11_longestPath_17 : decode cX11_longestPath 17 = .ok (.ishl, 1) := by decide +kernel
theorem dX11_longestPath_18 : decode cX11_longestPath 18 = .ok (.invokevirtual 185, 3) := by decide +kernel
theorem dX11_longestPath_21 : decode cX11_longestPath 21 = .ok (.goto 4, 3) := by decide +kernel
theorem dX11_longestPath_24 : decode cX11_longestPath 24 = .ok (.iconst (-1), 1) := by decide +kernel
theorem dX11_longestPath_25 : decode cX11_longestPath 25 = .ok (.ireturn, 1) := by decide +kernel
set_option maxRecDepth 20000 in
theorem ggX11_isConfluent_X11_firstCounterexample : GoodIn wsX11_isConfluent wsX11_firstCounterexample := goodIn_r _ [5, 6, 7, 8, 9, 10, 11, 12, 13, 14, 15, 16, 17, 18, 19, 20, 21, 22, 23, 24, 25, 26, 27, 4, 28, 29, 30, 31, 32, 33, 34, 35, 36, 37, 38, 39, 40, 41, 42, 43, 44, 45, 46, 47, 48, 49, 50, 51, 52, 53] (by decide +kernel) (by decide +kernel)
set_option maxRecDepth 20000 in
theorem gX11_isConfluent_X11_firstCounterexample : GoodIn wsX11_isConfluent (wsV RX11 188 RX11 yX11_firstCounterexample wsX11_firstCounterexample) := goodIn_app (goodIn_of _ (by decide +kernel)) ggX11_isConfluent_X11_firstCounterexample
theorem dX11_isConfluent_0 : decode cX11_isConfluent 0 = .ok (.aload_n 0, 1) := by decide +kernel
theorem dX11_isConfluent_1 : decode cX11_isConfluent 1 = .ok (.invokevirtual 188, 3) := by decide +kernel
theorem dX11_isConfluent_4 : decode cX11_isConfluent 4 = .ok (.bipush (-2), 2) := by decide +kernel
theorem dX11_isConfluent_6 : decode cX11_isConfluent 6 = .ok (.if_icmp .ne 7, 3) := by decide +kernel
theorem dX11_isConfluent_9 : decode cX11_isConfluent 9 = .ok (.iconst 1, 1) := by decide +kernel
theorem dX11_isConfluent_10 : decode cX11_isConfluent 10 = .ok (.goto 4, 3) := by decide +kernel
theorem dX11_isConfluent_13 : decode cX11_isConfluent 13 = .ok (.iconst 0, 1) := by decide +kernel
theorem dX11_isConfluent_14 : decode cX11_isConfluent 14 = .ok (.ireturn, 1) := by decide +kernel
set_option maxRecDepth 20000 in
theorem ggX11_counterexample_X11_firstCounterexample : GoodIn wsX11_counterexample wsX11_firstCounterexample := goodIn_r _ [5, 6, 7, 8, 9, 10, 11, 12, 13, 14, 15, 16, 17, 18, 19, 20, 21, 22, 23, 24, 25, 26, 27, 4, 28, 29, 30, 31, 32, 33, 34, 35, 36, 37, 38, 39, 40, 41, 42, 43, 44, 45, 46, 47, 48, 49, 50, 51, 52, 53] (by decide +kernel) (by decide +kernel)
set_option maxRecDepth 20000 in
theorem gX11_counterexample_X11_firstCounterexample : GoodIn wsX11_counterexample (wsV RX11 188 RX11 yX11_firstCounterexample wsX11_firstCounterexample) := goodIn_app (goodIn_of _ (by decide +kernel)) ggX11_counterexample_X11_firstCounterexample
theorem dX11_counterexample_0 : decode cX11_counterexample 0 = .ok (.aload_n 0, 1) := by decide +kernel
theorem dX11_counterexample_1 : decode cX11_counterexample 1 = .ok (.invokevirtual 188, 3) := by decide +kernel
theorem dX11_counterexample_4 : decode cX11_counterexample 4 = .ok (.ireturn, 1) := by decide +kernel
set_option maxRecDepth 20000 in
theorem ggX11_isLocallyConfluent_X3_fillReach : GoodIn wsX11_isLocallyConfluent wsX3_fillReach := goodIn_r _ [7, 8, 9, 10, 11, 5, 12, 13, 14, 15, 16, 17, 18, 19, 20, 47, 48, 49, 50, 51, 52] (by decide +kernel) (by decide +kernel)
set_option maxRecDepth 20000 in
theorem gX11_isLocallyConfluent_X3_fillReach_n191 : GoodIn wsX11_isLocallyConfluent (wsX3_fillReach) := ggX11_isLocallyConfluent_X3_fillReach
set_option maxRecDepth 20000 in
theorem ggX11_isLocallyConfluent_X7_collect : GoodIn wsX11_isLocallyConfluent wsX7_collect := goodIn_r _ [24, 25, 26, 27, 44, 45, 46, 47, 48, 49, 50, 51, 52] (by decide +kernel) (by decide +kernel)
set_option maxRecDepth 20000 in
theorem gX11_isLocallyConfluent_X7_collect_n195 : GoodIn wsX11_isLocallyConfluent (wsX7_collect) := ggX11_isLocallyConfluent_X7_collect
theorem dX11_isLocallyConfluent_0 : decode cX11_isLocallyConfluent 0 = .ok (.aload_n 0, 1) := by decide +kernel
theorem dX11_isLocallyConfluent_1 : decode cX11_isLocallyConfluent 1 = .ok (.getfield 19, 3) := by decide +kernel
theorem dX11_isLocallyConfluent_4 : decode cX11_isLocallyConfluent 4 = .ok (.aload_n 0, 1) := by decide +kernel
theorem dX11_isLocallyConfluent_5 : decode cX11_isLocallyConfluent 5 = .ok (.getfield 95, 3) := by decide +kernel
theorem dX11_isLocallyConfluent_8 : decode cX11_isLocallyConfluent 8 = .ok (.invokevirtual 191, 3) := by decide +kernel
theorem dX11_isLocallyConfluent_11 : decode cX11_isLocallyConfluent 11 = .ok (.aload_n 0, 1) := by decide +kernel
theorem dX11_isLocallyConfluent_12 : decode cX11_isLocallyConfluent 12 = .ok (.getfield 46, 3) := by decide +kernel
theorem dX11_isLocallyConfluent_15 : decode cX11_isLocallyConfluent 15 = .ok (.aload_n 0, 1) := by decide +kernel
theorem dX11_isLocallyConfluent_16 : decode cX11_isLocallyConfluent 16 = .ok (.getfield 19, 3) := by decide +kernel
theorem dX11_isLocallyConfluent_19 : decode cX11_isLocallyConfluent 19 = .ok (.invokevirtual 195, 3) := by decide +kernel
theorem dX11_isLocallyConfluent_22 : decode cX11_isLocallyConfluent 22 = .ok (.iconst 0, 1) := by decide +kernel
theorem dX11_isLocallyConfluent_23 : decode cX11_isLocallyConfluent 23 = .ok (.istore_n 1, 1) := by decide +kernel
theorem dX11_isLocallyConfluent_24 : decode cX11_isLocallyConfluent 24 = .ok (.iload_n 1, 1) := by decide +kernel
theorem dX11_isLocallyConfluent_25 : decode cX11_isLocallyConfluent 25 = .ok (.aload_n 0, 1) := by decide +kernel
theorem dX11_isLocallyConfluent_26 : decode cX11_isLocallyConfluent 26 = .ok (.getfield 46, 3) := by decide +kernel
theorem dX11_isLocallyConfluent_29 : decode cX11_isLocallyConfluent 29 = .ok (.getfield 199, 3) := by decide +kernel
theorem dX11_isLocallyConfluent_32 : decode cX11_isLocallyConfluent 32 = .ok (.if_icmp .ge 63, 3) := by decide +kernel
theorem dX11_isLocallyConfluent_35 : decode cX11_isLocallyConfluent 35 = .ok (.aload_n 0, 1) := by decide +kernel
theorem dX11_isLocallyConfluent_36 : decode cX11_isLocallyConfluent 36 = .ok (.getfield 19, 3) := by decide +kernel
theorem dX11_isLocallyConfluent_39 : decode cX11_isLocallyConfluent 39 = .ok (.getfield 158, 3) := by decide +kernel
theorem dX11_isLocallyConfluent_42 : decode cX11_isLocallyConfluent 42 = .ok (.aload_n 0, 1) := by decide +kernel
theorem dX11_isLocallyConfluent_43 : decode cX11_isLocallyConfluent 43 = .ok (.getfield 46, 3) := by decide +kernel
theorem dX11_isLocallyConfluent_46 : decode cX11_isLocallyConfluent 46 = .ok (.getfield 202, 3) := by decide +kernel
theorem dX11_isLocallyConfluent_49 : decode cX11_isLocallyConfluent 49 = .ok (.iload_n 1, 1) := by decide +kernel
theorem dX11_isLocallyConfluent_50 : decode cX11_isLocallyConfluent 50 = .ok (.iaload, 1) := by decide +kernel
theorem dX11_isLocallyConfluent_51 : decode cX11_isLocallyConfluent 51 = .ok (.iaload, 1) := by decide +kernel
theorem dX11_isLocallyConfluent_52 : decode cX11_isLocallyConfluent 52 = .ok (.istore_n 2, 1) := by decide +kernel
theorem dX11_isLocallyConfluent_53 : decode cX11_isLocallyConfluent 53 = .ok (.aload_n 0, 1) := by decide +kernel
theorem dX11_isLocallyConfluent_54 : decode cX11_isLocallyConfluent 54 = .ok (.getfield 19, 3) := by decide +kernel
theorem dX11_isLocallyConfluent_57 : decode cX11_isLocallyConfluent 57 = .ok (.getfield 158, 3) := by decide +kernel
theorem dX11_isLocallyConfluent_60 : decode cX11_isLocallyConfluent 60 = .ok (.aload_n 0, 1) := by decide +kernel
theorem dX11_isLocallyConfluent_61 : decode cX11_isLocallyConfluent 61 = .ok (.getfield 46, 3) := by decide +kernel
theorem dX11_isLocallyConfluent_64 : decode cX11_isLocallyConfluent 64 = .ok (.getfield 205, 3) := by decide +kernel
theorem dX11_isLocallyConfluent_67 : decode cX11_isLocallyConfluent 67 = .ok (.iload_n 1, 1) := by decide +kernel
theorem dX11_isLocallyConfluent_68 : decode cX11_isLocallyConfluent 68 = .ok (.iaload, 1) := by decide +kernel
theorem dX11_isLocallyConfluent_69 : decode cX11_isLocallyConfluent 69 = .ok (.iaload, 1) := by decide +kernel
theorem dX11_isLocallyConfluent_70 : decode cX11_isLocallyConfluent 70 = .ok (.istore_n 3, 1) := by decide +kernel
theorem dX11_isLocallyConfluent_71 : decode cX11_isLocallyConfluent 71 = .ok (.aload_n 0, 1) := by decide +kernel
theorem dX11_isLocallyConfluent_72 : decode cX11_isLocallyConfluent 72 = .ok (.getfield 95, 3) := by decide +kernel
theorem dX11_isLocallyConfluent_75 : decode cX11_isLocallyConfluent 75 = .ok (.iload_n 2, 1) := by decide +kernel
theorem dX11_isLocallyConfluent_76 : decode cX11_isLocallyConfluent 76 = .ok (.iaload, 1) := by decide +kernel
theorem dX11_isLocallyConfluent_77 : decode cX11_isLocallyConfluent 77 = .ok (.aload_n 0, 1) := by decide +kernel
theorem dX11_isLocallyConfluent_78 : decode cX11_isLocallyConfluent 78 = .ok (.getfield 95, 3) := by decide +kernel
theorem dX11_isLocallyConfluent_81 : decode cX11_isLocallyConfluent 81 = .ok (.iload_n 3, 1) := by decide +kernel
theorem dX11_isLocallyConfluent_82 : decode cX11_isLocallyConfluent 82 = .ok (.iaload, 1) := by decide +kernel
theorem dX11_isLocallyConfluent_83 : decode cX11_isLocallyConfluent 83 = .ok (.iand, 1) := by decide +kernel
theorem dX11_isLocallyConfluent_84 : decode cX11_isLocallyConfluent 84 = .ok (.ifCond .ne 5, 3) := by decide +kernel
theorem dX11_isLocallyConfluent_87 : decode cX11_isLocallyConfluent 87 = .ok (.iconst 0, 1) := by decide +kernel
theorem dX11_isLocallyConfluent_88 : decode cX11_isLocallyConfluent 88 = .ok (.ireturn, 1) := by decide +kernel
theorem dX11_isLocallyConfluent_89 : decode cX11_isLocallyConfluent 89 = .ok (.iinc 1 1, 3) := by decide +kernel
theorem dX11_isLocallyConfluent_92 : decode cX11_isLocallyConfluent 92 = .ok (.goto (-68), 3) := by decide +kernel
theorem dX11_isLocallyConfluent_95 : decode cX11_isLocallyConfluent 95 = .ok (.iconst 1, 1) := by decide +kernel
theorem dX11_isLocallyConfluent_96 : decode cX11_isLocallyConfluent 96 = .ok (.ireturn, 1) := by decide +kernel
set_option maxRecDepth 20000 in
theorem ggX11_peakCount_X7_collect : GoodIn wsX11_peakCount wsX7_collect := goodIn_r _ [6, 7, 8, 9, 26, 27, 28, 29, 30, 31, 32, 33, 34] (by decide +kernel) (by decide +kernel)
set_option maxRecDepth 20000 in
theorem gX11_peakCount_X7_collect_n195 : GoodIn wsX11_peakCount (wsX7_collect) := ggX11_peakCount_X7_collect
theorem dX11_peakCount_0 : decode cX11_peakCount 0 = .ok (.aload_n 0, 1) := by decide +kernel
theorem dX11_peakCount_1 : decode cX11_peakCount 1 = .ok (.getfield 46, 3) := by decide +kernel
theorem dX11_peakCount_4 : decode cX11_peakCount 4 = .ok (.aload_n 0, 1) := by decide +kernel
theorem dX11_peakCount_5 : decode cX11_peakCount 5 = .ok (.getfield 19, 3) := by decide +kernel
theorem dX11_peakCount_8 : decode cX11_peakCount 8 = .ok (.invokevirtual 195, 3) := by decide +kernel
theorem dX11_peakCount_11 : decode cX11_peakCount 11 = .ok (.aload_n 0, 1) := by decide +kernel
theorem dX11_peakCount_12 : decode cX11_peakCount 12 = .ok (.getfield 46, 3) := by decide +kernel
theorem dX11_peakCount_15 : decode cX11_peakCount 15 = .ok (.getfield 199, 3) := by decide +kernel
theorem dX11_peakCount_18 : decode cX11_peakCount 18 = .ok (.ireturn, 1) := by decide +kernel
set_option maxRecDepth 20000 in
theorem ggX11_peakStep_X7_collect : GoodIn wsX11_peakStep wsX7_collect := goodIn_r _ [6, 7, 8, 9, 33, 34, 35, 36, 37, 38, 39, 40, 41] (by decide +kernel) (by decide +kernel)
set_option maxRecDepth 20000 in
theorem gX11_peakStep_X7_collect_n195 : GoodIn wsX11_peakStep (wsX7_collect) := ggX11_peakStep_X7_collect
set_option maxRecDepth 20000 in
theorem ggX11_peakStep_X7_has : GoodIn wsX11_peakStep wsX7_has := goodIn_r _ [12, 7, 33, 34, 35] (by decide +kernel) (by decide +kernel)
set_option maxRecDepth 20000 in
theorem gX11_peakStep_X7_has_n208 : GoodIn wsX11_peakStep (wsX7_has) := ggX11_peakStep_X7_has
set_option maxRecDepth 20000 in
theorem ggX11_peakStep_X11_isSide : GoodIn wsX11_peakStep wsX11_isSide := goodIn_r _ [16] (by decide +kernel) (by decide +kernel)
set_option maxRecDepth 20000 in
theorem gX11_peakStep_X11_isSide : GoodIn wsX11_peakStep (va_wsS RX11 211 yX11_isSide wsX11_isSide) := goodIn_app (goodIn_of _ (by decide +kernel)) ggX11_peakStep_X11_isSide
theorem dX11_peakStep_0 : decode cX11_peakStep 0 = .ok (.aload_n 0, 1) := by decide +kernel
theorem dX11_peakStep_1 : decode cX11_peakStep 1 = .ok (.getfield 46, 3) := by decide +kernel
theorem dX11_peakStep_4 : decode cX11_peakStep 4 = .ok (.aload_n 0, 1) := by decide +kernel
theorem dX11_peakStep_5 : decode cX11_peakStep 5 = .ok (.getfield 19, 3) := by decide +kernel
theorem dX11_peakStep_8 : decode cX11_peakStep 8 = .ok (.invokevirtual 195, 3) := by decide +kernel
theorem dX11_peakStep_11 : decode cX11_peakStep 11 = .ok (.aload_n 0, 1) := by decide +kernel
theorem dX11_peakStep_12 : decode cX11_peakStep 12 = .ok (.getfield 46, 3) := by decide +kernel
theorem dX11_peakStep_15 : decode cX11_peakStep 15 = .ok (.iload_n 1, 1) := by decide +kernel
theorem dX11_peakStep_16 : decode cX11_peakStep 16 = .ok (.invokevirtual 208, 3) := by decide +kernel
theorem dX11_peakStep_19 : decode cX11_peakStep 19 = .ok (.ifCond .eq 10, 3) := by decide +kernel
theorem dX11_peakStep_22 : decode cX11_peakStep 22 = .ok (.iload_n 2, 1) := by decide +kernel
theorem dX11_peakStep_23 : decode cX11_peakStep 23 = .ok (.invokestatic 211, 3) := by decide +kernel
theorem dX11_peakStep_26 : decode cX11_peakStep 26 = .ok (.ifCond .ne 5, 3) := by decide +kernel
theorem dX11_peakStep_29 : decode cX11_peakStep 29 = .ok (.iconst (-1), 1) := by decide +kernel
theorem dX11_peakStep_30 : decode cX11_peakStep 30 = .ok (.ireturn, 1) := by decide +kernel
theorem dX11_peakStep_31 : decode cX11_peakStep 31 = .ok (.iload_n 2, 1) := by decide +kernel
theorem dX11_peakStep_32 : decode cX11_peakStep 32 = .ok (.ifCond .ne 15, 3) := by decide +kernel
theorem dX11_peakStep_35 : decode cX11_peakStep 35 = .ok (.aload_n 0, 1) := by decide +kernel
theorem dX11_peakStep_36 : decode cX11_peakStep 36 = .ok (.getfield 46, 3) := by decide +kernel
theorem dX11_peakStep_39 : decode cX11_peakStep 39 = .ok (.getfield 202, 3) := by decide +kernel
theorem dX11_peakStep_42 : decode cX11_peakStep 42 = .ok (.iload_n 1, 1) := by decide +kernel
theorem dX11_peakStep_43 : decode cX11_peakStep 43 = .ok (.iaload, 1) := by decide +kernel
theorem dX11_peakStep_44 : decode cX11_peakStep 44 = .ok (.goto 12, 3) := by decide +kernel
theorem dX11_peakStep_47 : decode cX11_peakStep 47 = .ok (.aload_n 0, 1) := by decide +kernel
theorem dX11_peakStep_48 : decode cX11_peakStep 48 = .ok (.getfield 46, 3) := by decide +kernel
theorem dX11_peakStep_51 : decode cX11_peakStep 51 = .ok (.getfield 205, 3) := by decide +kernel
theorem dX11_peakStep_54 : decode cX11_peakStep 54 = .ok (.iload_n 1, 1) := by decide +kernel
theorem dX11_peakStep_55 : decode cX11_peakStep 55 = .ok (.iaload, 1) := by decide +kernel
theorem dX11_peakStep_56 : decode cX11_peakStep 56 = .ok (.ireturn, 1) := by decide +kernel
set_option maxRecDepth 20000 in
theorem ggX11_isDecreasing_X7_collect : GoodIn wsX11_isDecreasing wsX7_collect := goodIn_r _ [7, 8, 9, 10, 49, 50, 51, 52, 53, 54, 55, 56, 57] (by decide +kernel) (by decide +kernel)
set_option maxRecDepth 20000 in
theorem gX11_isDecreasing_X7_collect_n195 : GoodIn wsX11_isDecreasing (wsX7_collect) := ggX11_isDecreasing_X7_collect
set_option maxRecDepth 20000 in
theorem ggX11_isDecreasing_X7_has : GoodIn wsX11_isDecreasing wsX7_has := goodIn_r _ [13, 8, 49, 50, 51] (by decide +kernel) (by decide +kernel)
