theorem dX0_init_0 : decode cX0_init 0 = .ok (.aload_n 0, 1) := by decide +kernel
theorem dX0_init_1 : decode cX0_init 1 = .ok (.invokespecial 1, 3) := by decide +kernel
theorem dX0_init_4 : decode cX0_init 4 = .ok (.aload_n 0, 1) := by decide +kernel
theorem dX0_init_5 : decode cX0_init 5 = .ok (.iconst (-1), 1) := by decide +kernel
theorem dX0_init_6 : decode cX0_init 6 = .ok (.putfield 7, 3) := by decide +kernel
theorem dX0_init_9 : decode cX0_init 9 = .ok (.return_, 1) := by decide +kernel
theorem dX0_startFrom_0 : decode cX0_startFrom 0 = .ok (.aload_n 0, 1) := by decide +kernel
theorem dX0_startFrom_1 : decode cX0_startFrom 1 = .ok (.iload_n 1, 1) := by decide +kernel
theorem dX0_startFrom_2 : decode cX0_startFrom 2 = .ok (.putfield 7, 3) := by decide +kernel
theorem dX0_startFrom_5 : decode cX0_startFrom 5 = .ok (.return_, 1) := by decide +kernel
theorem dX0_last_0 : decode cX0_last 0 = .ok (.aload_n 0, 1) := by decide +kernel
theorem dX0_last_1 : decode cX0_last 1 = .ok (.getfield 7, 3) := by decide +kernel
theorem dX0_last_4 : decode cX0_last 4 = .ok (.ireturn, 1) := by decide +kernel
theorem dX0_next_0 : decode cX0_next 0 = .ok (.aload_n 0, 1) := by decide +kernel
theorem dX0_next_1 : decode cX0_next 1 = .ok (.ldc2_w 13, 3) := by decide +kernel
theorem dX0_next_4 : decode cX0_next 4 = .ok (.aload_n 0, 1) := by decide +kernel
theorem dX0_next_5 : decode cX0_next 5 = .ok (.getfield 7, 3) := by decide +kernel
theorem dX0_next_8 : decode cX0_next 8 = .ok (.i2l, 1) := by decide +kernel
theorem dX0_next_9 : decode cX0_next 9 = .ok (.lmul, 1) := by decide +kernel
theorem dX0_next_10 : decode cX0_next 10 = .ok (.ldc2_w 15, 3) := by decide +kernel
theorem dX0_next_13 : decode cX0_next 13 = .ok (.ladd, 1) := by decide +kernel
theorem dX0_next_14 : decode cX0_next 14 = .ok (.ldc2_w 17, 3) := by decide +kernel
theorem dX0_next_17 : decode cX0_next 17 = .ok (.land, 1) := by decide +kernel
theorem dX0_next_18 : decode cX0_next 18 = .ok (.l2i, 1) := by decide +kernel
theorem dX0_next_19 : decode cX0_next 19 = .ok (.putfield 7, 3) := by decide +kernel
theorem dX0_next_22 : decode cX0_next 22 = .ok (.aload_n 0, 1) := by decide +kernel
theorem dX0_next_23 : decode cX0_next 23 = .ok (.getfield 7, 3) := by decide +kernel
theorem dX0_next_26 : decode cX0_next 26 = .ok (.bipush 16, 2) := by decide +kernel
theorem dX0_next_28 : decode cX0_next 28 = .ok (.ishr, 1) := by decide +kernel
theorem dX0_next_29 : decode cX0_next 29 = .ok (.iconst 1, 1) := by decide +kernel
theorem dX0_next_30 : decode cX0_next 30 = .ok (.iload_n 1, 1) := by decide +kernel
theorem dX0_next_31 : decode cX0_next 31 = .ok (.ishl, 1) := by decide +kernel
theorem dX0_next_32 : decode cX0_next 32 = .ok (.iconst 1, 1) := by decide +kernel
theorem dX0_next_33 : decode cX0_next 33 = .ok (.isub, 1) := by decide +kernel
theorem dX0_next_34 : decode cX0_next 34 = .ok (.iand, 1) := by decide +kernel
theorem dX0_next_35 : decode cX0_next 35 = .ok (.ireturn, 1) := by decide +kernel
theorem dX1_init_0 : decode cX1_init 0 = .ok (.aload_n 0, 1) := by decide +kernel
theorem dX1_init_1 : decode cX1_init 1 = .ok (.invokespecial 3, 3) := by decide +kernel
theorem dX1_init_4 : decode cX1_init 4 = .ok (.aload_n 0, 1) := by decide +kernel
theorem dX1_init_5 : decode cX1_init 5 = .ok (.bipush 56, 2) := by decide +kernel
theorem dX1_init_7 : decode cX1_init 7 = .ok (.newarray .int, 2) := by decide +kernel
theorem dX1_init_9 : decode cX1_init 9 = .ok (.putfield 9, 3) := by decide +kernel
theorem dX1_init_12 : decode cX1_init 12 = .ok (.aload_n 0, 1) := by decide +kernel
theorem dX1_init_13 : decode cX1_init 13 = .ok (.iconst 0, 1) := by decide +kernel
theorem dX1_init_14 : decode cX1_init 14 = .ok (.putfield 15, 3) := by decide +kernel
theorem dX1_init_17 : decode cX1_init 17 = .ok (.return_, 1) := by decide +kernel
theorem dX1_size_0 : decode cX1_size 0 = .ok (.aload_n 0, 1) := by decide +kernel
theorem dX1_size_1 : decode cX1_size 1 = .ok (.getfield 15, 3) := by decide +kernel
theorem dX1_size_4 : decode cX1_size 4 = .ok (.ireturn, 1) := by decide +kernel
theorem dX1_append_0 : decode cX1_append 0 = .ok (.aload_n 0, 1) := by decide +kernel
theorem dX1_append_1 : decode cX1_append 1 = .ok (.getfield 15, 3) := by decide +kernel
theorem dX1_append_4 : decode cX1_append 4 = .ok (.ifCond .lt 15, 3) := by decide +kernel
theorem dX1_append_7 : decode cX1_append 7 = .ok (.aload_n 0, 1) := by decide +kernel
theorem dX1_append_8 : decode cX1_append 8 = .ok (.getfield 15, 3) := by decide +kernel
theorem dX1_append_11 : decode cX1_append 11 = .ok (.aload_n 0, 1) := by decide +kernel
theorem dX1_append_12 : decode cX1_append 12 = .ok (.getfield 9, 3) := by decide +kernel
theorem dX1_append_15 : decode cX1_append 15 = .ok (.arraylength, 1) := by decide +kernel
theorem dX1_append_16 : decode cX1_append 16 = .ok (.if_icmp .lt 5, 3) := by decide +kernel
theorem dX1_append_19 : decode cX1_append 19 = .ok (.iconst 0, 1) := by decide +kernel
theorem dX1_append_20 : decode cX1_append 20 = .ok (.ireturn, 1) := by decide +kernel
theorem dX1_append_21 : decode cX1_append 21 = .ok (.aload_n 0, 1) := by decide +kernel
theorem dX1_append_22 : decode cX1_append 22 = .ok (.getfield 9, 3) := by decide +kernel
theorem dX1_append_25 : decode cX1_append 25 = .ok (.aload_n 0, 1) := by decide +kernel
theorem dX1_append_26 : decode cX1_append 26 = .ok (.getfield 15, 3) := by decide +kernel
theorem dX1_append_29 : decode cX1_append 29 = .ok (.iload_n 1, 1) := by decide +kernel
theorem dX1_append_30 : decode cX1_append 30 = .ok (.iastore, 1) := by decide +kernel
theorem dX1_append_31 : decode cX1_append 31 = .ok (.aload_n 0, 1) := by decide +kernel
theorem dX1_append_32 : decode cX1_append 32 = .ok (.dup, 1) := by decide +kernel
theorem dX1_append_33 : decode cX1_append 33 = .ok (.getfield 15, 3) := by decide +kernel
theorem dX1_append_36 : decode cX1_append 36 = .ok (.iconst 1, 1) := by decide +kernel
theorem dX1_append_37 : decode cX1_append 37 = .ok (.iadd, 1) := by decide +kernel
theorem dX1_append_38 : decode cX1_append 38 = .ok (.putfield 15, 3) := by decide +kernel
theorem dX1_append_41 : decode cX1_append 41 = .ok (.iconst 1, 1) := by decide +kernel
theorem dX1_append_42 : decode cX1_append 42 = .ok (.ireturn, 1) := by decide +kernel
theorem dX1_clear_0 : decode cX1_clear 0 = .ok (.aload_n 0, 1) := by decide +kernel
theorem dX1_clear_1 : decode cX1_clear 1 = .ok (.iconst 0, 1) := by decide +kernel
theorem dX1_clear_2 : decode cX1_clear 2 = .ok (.putfield 15, 3) := by decide +kernel
theorem dX1_clear_5 : decode cX1_clear 5 = .ok (.return_, 1) := by decide +kernel
theorem dX1_letterAt_0 : decode cX1_letterAt 0 = .ok (.iload_n 1, 1) := by decide +kernel
theorem dX1_letterAt_1 : decode cX1_letterAt 1 = .ok (.ifCond .lt 21, 3) := by decide +kernel
theorem dX1_letterAt_4 : decode cX1_letterAt 4 = .ok (.iload_n 1, 1) := by decide +kernel
theorem dX1_letterAt_5 : decode cX1_letterAt 5 = .ok (.aload_n 0, 1) := by decide +kernel
theorem dX1_letterAt_6 : decode cX1_letterAt 6 = .ok (.getfield 9, 3) := by decide +kernel
theorem dX1_letterAt_9 : decode cX1_letterAt 9 = .ok (.arraylength, 1) := by decide +kernel
theorem dX1_letterAt_10 : decode cX1_letterAt 10 = .ok (.if_icmp .ge 12, 3) := by decide +kernel
theorem dX1_letterAt_13 : decode cX1_letterAt 13 = .ok (.aload_n 0, 1) := by decide +kernel
theorem dX1_letterAt_14 : decode cX1_letterAt 14 = .ok (.getfield 9, 3) := by decide +kernel
theorem dX1_letterAt_17 : decode cX1_letterAt 17 = .ok (.iload_n 1, 1) := by decide +kernel
theorem dX1_letterAt_18 : decode cX1_letterAt 18 = .ok (.iaload, 1) := by decide +kernel
theorem dX1_letterAt_19 : decode cX1_letterAt 19 = .ok (.goto 4, 3) := by decide +kernel
theorem dX1_letterAt_22 : decode cX1_letterAt 22 = .ok (.iconst 0, 1) := by decide +kernel
theorem dX1_letterAt_23 : decode cX1_letterAt 23 = .ok (.ireturn, 1) := by decide +kernel
theorem dX2_init_0 : decode cX2_init 0 = .ok (.aload_n 0, 1) := by decide +kernel
theorem dX2_init_1 : decode cX2_init 1 = .ok (.invokespecial 3, 3) := by decide +kernel
theorem dX2_init_4 : decode cX2_init 4 = .ok (.aload_n 0, 1) := by decide +kernel
theorem dX2_init_5 : decode cX2_init 5 = .ok (.iconst 5, 1) := by decide +kernel
theorem dX2_init_6 : decode cX2_init 6 = .ok (.newarray .int, 2) := by decide +kernel
theorem dX2_init_8 : decode cX2_init 8 = .ok (.putfield 9, 3) := by decide +kernel
theorem dX2_init_11 : decode cX2_init 11 = .ok (.aload_n 0, 1) := by decide +kernel
theorem dX2_init_12 : decode cX2_init 12 = .ok (.iconst 0, 1) := by decide +kernel
theorem dX2_init_13 : decode cX2_init 13 = .ok (.putfield 15, 3) := by decide +kernel
theorem dX2_init_16 : decode cX2_init 16 = .ok (.aload_n 0, 1) := by decide +kernel
theorem dX2_init_17 : decode cX2_init 17 = .ok (.iconst 0, 1) := by decide +kernel
theorem dX2_init_18 : decode cX2_init 18 = .ok (.putfield 19, 3) := by decide +kernel
theorem dX2_init_21 : decode cX2_init 21 = .ok (.aload_n 0, 1) := by decide +kernel
theorem dX2_init_22 : decode cX2_init 22 = .ok (.iconst 0, 1) := by decide +kernel
theorem dX2_init_23 : decode cX2_init 23 = .ok (.putfield 22, 3) := by decide +kernel
theorem dX2_init_26 : decode cX2_init 26 = .ok (.return_, 1) := by decide +kernel
set_option maxRecDepth 20000 in
theorem ggX2_readAsFarAsItGoes_X2_start : GoodIn wsX2_readAsFarAsItGoes wsX2_start := goodIn_r _ [5, 6, 7, 8, 9, 37, 38, 39, 40] (by decide +kernel) (by decide +kernel)
set_option maxRecDepth 20000 in
theorem gX2_readAsFarAsItGoes_X2_start : GoodIn wsX2_readAsFarAsItGoes (wsV RX2 25 RX2 yX2_start wsX2_start) := goodIn_app (goodIn_of _ (by decide +kernel)) ggX2_readAsFarAsItGoes_X2_start
set_option maxRecDepth 20000 in
theorem ggX2_readAsFarAsItGoes_X1_size : GoodIn wsX2_readAsFarAsItGoes wsX1_size := goodIn_r _ [14, 15, 41, 42] (by decide +kernel) (by decide +kernel)
set_option maxRecDepth 20000 in
theorem gX2_readAsFarAsItGoes_X1_size : GoodIn wsX2_readAsFarAsItGoes (wsV RX2 28 RX1 yX1_size wsX1_size) := goodIn_app (goodIn_of _ (by decide +kernel)) ggX2_readAsFarAsItGoes_X1_size
set_option maxRecDepth 20000 in
theorem ggX2_readAsFarAsItGoes_X1_letterAt : GoodIn wsX2_readAsFarAsItGoes wsX1_letterAt := goodIn_r _ [19, 20, 41, 42] (by decide +kernel) (by decide +kernel)
set_option maxRecDepth 20000 in
theorem gX2_readAsFarAsItGoes_X1_letterAt : GoodIn wsX2_readAsFarAsItGoes (wsV RX2 34 RX1 yX1_letterAt wsX1_letterAt) := goodIn_app (goodIn_of _ (by decide +kernel)) ggX2_readAsFarAsItGoes_X1_letterAt
set_option maxRecDepth 20000 in
theorem ggX2_readAsFarAsItGoes_X2_takes : GoodIn wsX2_readAsFarAsItGoes wsX2_takes := goodIn_r _ [24, 25, 26, 27, 4, 28, 7, 8, 9, 29, 30, 31, 32, 33, 34, 35, 36, 6, 37, 38, 39, 40] (by decide +kernel) (by decide +kernel)
set_option maxRecDepth 20000 in
theorem gX2_readAsFarAsItGoes_X2_takes : GoodIn wsX2_readAsFarAsItGoes (wsV RX2 38 RX2 yX2_takes wsX2_takes) := goodIn_app (goodIn_of _ (by decide +kernel)) ggX2_readAsFarAsItGoes_X2_takes
theorem dX2_readAsFarAsItGoes_0 : decode cX2_readAsFarAsItGoes 0 = .ok (.aload_n 0, 1) := by decide +kernel
theorem dX2_readAsFarAsItGoes_1 : decode cX2_readAsFarAsItGoes 1 = .ok (.invokevirtual 25, 3) := by decide +kernel
theorem dX2_readAsFarAsItGoes_4 : decode cX2_readAsFarAsItGoes 4 = .ok (.iconst 0, 1) := by decide +kernel
theorem dX2_readAsFarAsItGoes_5 : decode cX2_readAsFarAsItGoes 5 = .ok (.istore_n 2, 1) := by decide +kernel
theorem dX2_readAsFarAsItGoes_6 : decode cX2_readAsFarAsItGoes 6 = .ok (.iload_n 2, 1) := by decide +kernel
theorem dX2_readAsFarAsItGoes_7 : decode cX2_readAsFarAsItGoes 7 = .ok (.aload_n 1, 1) := by decide +kernel
theorem dX2_readAsFarAsItGoes_8 : decode cX2_readAsFarAsItGoes 8 = .ok (.invokevirtual 28, 3) := by decide +kernel
theorem dX2_readAsFarAsItGoes_11 : decode cX2_readAsFarAsItGoes 11 = .ok (.if_icmp .ge 23, 3) := by decide +kernel
theorem dX2_readAsFarAsItGoes_14 : decode cX2_readAsFarAsItGoes 14 = .ok (.aload_n 0, 1) := by decide +kernel
theorem dX2_readAsFarAsItGoes_15 : decode cX2_readAsFarAsItGoes 15 = .ok (.aload_n 1, 1) := by decide +kernel
theorem dX2_readAsFarAsItGoes_16 : decode cX2_readAsFarAsItGoes 16 = .ok (.iload_n 2, 1) := by decide +kernel
theorem dX2_readAsFarAsItGoes_17 : decode cX2_readAsFarAsItGoes 17 = .ok (.invokevirtual 34, 3) := by decide +kernel
theorem dX2_readAsFarAsItGoes_20 : decode cX2_readAsFarAsItGoes 20 = .ok (.invokevirtual 38, 3) := by decide +kernel
theorem dX2_readAsFarAsItGoes_23 : decode cX2_readAsFarAsItGoes 23 = .ok (.ifCond .ne 5, 3) := by decide +kernel
theorem dX2_readAsFarAsItGoes_26 : decode cX2_readAsFarAsItGoes 26 = .ok (.iload_n 2, 1) := by decide +kernel
theorem dX2_readAsFarAsItGoes_27 : decode cX2_readAsFarAsItGoes 27 = .ok (.ireturn, 1) := by decide +kernel
theorem dX2_readAsFarAsItGoes_28 : decode cX2_readAsFarAsItGoes 28 = .ok (.iinc 2 1, 3) := by decide +kernel
theorem dX2_readAsFarAsItGoes_31 : decode cX2_readAsFarAsItGoes 31 = .ok (.goto (-25), 3) := by decide +kernel
theorem dX2_readAsFarAsItGoes_34 : decode cX2_readAsFarAsItGoes 34 = .ok (.aload_n 1, 1) := by decide +kernel
theorem dX2_readAsFarAsItGoes_35 : decode cX2_readAsFarAsItGoes 35 = .ok (.invokevirtual 28, 3) := by decide +kernel
theorem dX2_readAsFarAsItGoes_38 : decode cX2_readAsFarAsItGoes 38 = .ok (.ireturn, 1) := by decide +kernel
theorem dX2_start_0 : decode cX2_start 0 = .ok (.iconst 0, 1) := by decide +kernel
theorem dX2_start_1 : decode cX2_start 1 = .ok (.istore_n 1, 1) := by decide +kernel
theorem dX2_start_2 : decode cX2_start 2 = .ok (.iload_n 1, 1) := by decide +kernel
theorem dX2_start_3 : decode cX2_start 3 = .ok (.aload_n 0, 1) := by decide +kernel
theorem dX2_start_4 : decode cX2_start 4 = .ok (.getfield 9, 3) := by decide +kernel
theorem dX2_start_7 : decode cX2_start 7 = .ok (.arraylength, 1) := by decide +kernel
theorem dX2_start_8 : decode cX2_start 8 = .ok (.if_icmp .ge 16, 3) := by decide +kernel
theorem dX2_start_11 : decode cX2_start 11 = .ok (.aload_n 0, 1) := by decide +kernel
theorem dX2_start_12 : decode cX2_start 12 = .ok (.getfield 9, 3) := by decide +kernel
theorem dX2_start_15 : decode cX2_start 15 = .ok (.iload_n 1, 1) := by decide +kernel
theorem dX2_start_16 : decode cX2_start 16 = .ok (.iconst 0, 1) := by decide +kernel
theorem dX2_start_17 : decode cX2_start 17 = .ok (.iastore, 1) := by decide +kernel
theorem dX2_start_18 : decode cX2_start 18 = .ok (.iinc 1 1, 3) := by decide +kernel
theorem dX2_start_21 : decode cX2_start 21 = .ok (.goto (-19), 3) := by decide +kernel
theorem dX2_start_24 : decode cX2_start 24 = .ok (.aload_n 0, 1) := by decide +kernel
theorem dX2_start_25 : decode cX2_start 25 = .ok (.iconst 0, 1) := by decide +kernel
theorem dX2_start_26 : decode cX2_start 26 = .ok (.putfield 15, 3) := by decide +kernel
theorem dX2_start_29 : decode cX2_start 29 = .ok (.aload_n 0, 1) := by decide +kernel
theorem dX2_start_30 : decode cX2_start 30 = .ok (.iconst 0, 1) := by decide +kernel
theorem dX2_start_31 : decode cX2_start 31 = .ok (.putfield 19, 3) := by decide +kernel
theorem dX2_start_34 : decode cX2_start 34 = .ok (.aload_n 0, 1) := by decide +kernel
theorem dX2_start_35 : decode cX2_start 35 = .ok (.iconst 0, 1) := by decide +kernel
theorem dX2_start_36 : decode cX2_start 36 = .ok (.putfield 22, 3) := by decide +kernel
theorem dX2_start_39 : decode cX2_start 39 = .ok (.return_, 1) := by decide +kernel
set_option maxRecDepth 20000 in
theorem ggX2_takes_X2_takesEndOfRow : GoodIn wsX2_takes wsX2_takesEndOfRow := goodIn_r _ [5, 6, 7, 8, 9, 10, 11, 4, 12, 18, 19, 20, 21] (by decide +kernel) (by decide +kernel)
set_option maxRecDepth 20000 in
theorem gX2_takes_X2_takesEndOfRow : GoodIn wsX2_takes (wsV RX2 42 RX2 yX2_takesEndOfRow wsX2_takesEndOfRow) := goodIn_app (goodIn_of _ (by decide +kernel)) ggX2_takes_X2_takesEndOfRow
set_option maxRecDepth 20000 in
theorem ggX2_takes_X2_takesSign : GoodIn wsX2_takes wsX2_takesSign := goodIn_r _ [16, 6, 8, 7, 17, 18, 19, 20, 21] (by decide +kernel) (by decide +kernel)
set_option maxRecDepth 20000 in
theorem gX2_takes_X2_takesSign : GoodIn wsX2_takes (wsV RX2 46 RX2 yX2_takesSign wsX2_takesSign) := goodIn_app (goodIn_of _ (by decide +kernel)) ggX2_takes_X2_takesSign
theorem dX2_takes_0 : decode cX2_takes 0 = .ok (.iload_n 1, 1) := by decide +kernel
theorem dX2_takes_1 : decode cX2_takes 1 = .ok (.tableswitch 44 47 49 #[27, 32, 38], 27) := by decide +kernel
theorem dX2_takes_28 : decode cX2_takes 28 = .ok (.aload_n 0, 1) := by decide +kernel
theorem dX2_takes_29 : decode cX2_takes 29 = .ok (.invokevirtual 42, 3) := by decide +kernel
theorem dX2_takes_32 : decode cX2_takes 32 = .ok (.ireturn, 1) := by decide +kernel
theorem dX2_takes_33 : decode cX2_takes 33 = .ok (.aload_n 0, 1) := by decide +kernel
theorem dX2_takes_34 : decode cX2_takes 34 = .ok (.iconst 0, 1) := by decide +kernel
theorem dX2_takes_35 : decode cX2_takes 35 = .ok (.invokevirtual 46, 3) := by decide +kernel
theorem dX2_takes_38 : decode cX2_takes 38 = .ok (.ireturn, 1) := by decide +kernel
theorem dX2_takes_39 : decode cX2_takes 39 = .ok (.aload_n 0, 1) := by decide +kernel
theorem dX2_takes_40 : decode cX2_takes 40 = .ok (.iconst 1, 1) := by decide +kernel
theorem dX2_takes_41 : decode cX2_takes 41 = .ok (.invokevirtual 46, 3) := by decide +kernel
theorem dX2_takes_44 : decode cX2_takes 44 = .ok (.ireturn, 1) := by decide +kernel
theorem dX2_takes_45 : decode cX2_takes 45 = .ok (.iconst 0, 1) := by decide +kernel
theorem dX2_takes_46 : decode cX2_takes 46 = .ok (.ireturn, 1) := by decide +kernel
set_option maxRecDepth 20000 in
theorem ggX2_takesEndOfRow_X2_rowIsWhole : GoodIn wsX2_takesEndOfRow wsX2_rowIsWhole := goodIn_r _ [8, 1, 2, 3, 9, 10, 11, 12] (by decide +kernel) (by decide +kernel)
set_option maxRecDepth 20000 in
theorem gX2_takesEndOfRow_X2_rowIsWhole : GoodIn wsX2_takesEndOfRow (wsV RX2 49 RX2 yX2_rowIsWhole wsX2_rowIsWhole) := goodIn_app (goodIn_of _ (by decide +kernel)) ggX2_takesEndOfRow_X2_rowIsWhole
theorem dX2_takesEndOfRow_0 : decode cX2_takesEndOfRow 0 = .ok (.aload_n 0, 1) := by decide +kernel
theorem dX2_takesEndOfRow_1 : decode cX2_takesEndOfRow 1 = .ok (.invokevirtual 49, 3) := by decide +kernel
theorem dX2_takesEndOfRow_4 : decode cX2_takesEndOfRow 4 = .ok (.ifCond .eq 11, 3) := by decide +kernel
theorem dX2_takesEndOfRow_7 : decode cX2_takesEndOfRow 7 = .ok (.aload_n 0, 1) := by decide +kernel
theorem dX2_takesEndOfRow_8 : decode cX2_takesEndOfRow 8 = .ok (.getfield 15, 3) := by decide +kernel
theorem dX2_takesEndOfRow_11 : decode cX2_takesEndOfRow 11 = .ok (.iconst 4, 1) := by decide +kernel
theorem dX2_takesEndOfRow_12 : decode cX2_takesEndOfRow 12 = .ok (.if_icmp .lt 5, 3) := by decide +kernel
theorem dX2_takesEndOfRow_15 : decode cX2_takesEndOfRow 15 = .ok (.iconst 0, 1) := by decide +kernel
theorem dX2_takesEndOfRow_16 : decode cX2_takesEndOfRow 16 = .ok (.ireturn, 1) := by decide +kernel
theorem dX2_takesEndOfRow_17 : decode cX2_takesEndOfRow 17 = .ok (.aload_n 0, 1) := by decide +kernel
theorem dX2_takesEndOfRow_18 : decode cX2_takesEndOfRow 18 = .ok (.aload_n 0, 1) := by decide +kernel
theorem dX2_takesEndOfRow_19 : decode cX2_takesEndOfRow 19 = .ok (.getfield 19, 3) := by decide +kernel
theorem dX2_takesEndOfRow_22 : decode cX2_takesEndOfRow 22 = .ok (.putfield 22, 3) := by decide +kernel
theorem dX2_takesEndOfRow_25 : decode cX2_takesEndOfRow 25 = .ok (.aload_n 0, 1) := by decide +kernel
theorem dX2_takesEndOfRow_26 : decode cX2_takesEndOfRow 26 = .ok (.dup, 1) := by decide +kernel
theorem dX2_takesEndOfRow_27 : decode cX2_takesEndOfRow 27 = .ok (.getfield 15, 3) := by decide +kernel
theorem dX2_takesEndOfRow_30 : decode cX2_takesEndOfRow 30 = .ok (.iconst 1, 1) := by decide +kernel
theorem dX2_takesEndOfRow_31 : decode cX2_takesEndOfRow 31 = .ok (.iadd, 1) := by decide +kernel
theorem dX2_takesEndOfRow_32 : decode cX2_takesEndOfRow 32 = .ok (.putfield 15, 3) := by decide +kernel
theorem dX2_takesEndOfRow_35 : decode cX2_takesEndOfRow 35 = .ok (.aload_n 0, 1) := by decide +kernel
theorem dX2_takesEndOfRow_36 : decode cX2_takesEndOfRow 36 = .ok (.iconst 0, 1) := by decide +kernel
theorem dX2_takesEndOfRow_37 : decode cX2_takesEndOfRow 37 = .ok (.putfield 19, 3) := by decide +kernel
theorem dX2_takesEndOfRow_40 : decode cX2_takesEndOfRow 40 = .ok (.iconst 1, 1) := by decide +kernel
theorem dX2_takesEndOfRow_41 : decode cX2_takesEndOfRow 41 = .ok (.ireturn, 1) := by decide +kernel
theorem dX2_takesSign_0 : decode cX2_takesSign 0 = .ok (.aload_n 0, 1) := by decide +kernel
theorem dX2_takesSign_1 : decode cX2_takesSign 1 = .ok (.getfield 15, 3) := by decide +kernel
theorem dX2_takesSign_4 : decode cX2_takesSign 4 = .ok (.ifCond .ne 8, 3) := by decide +kernel
theorem dX2_takesSign_7 : decode cX2_takesSign 7 = .ok (.bipush 10, 2) := by decide +kernel
theorem dX2_takesSign_9 : decode cX2_takesSign 9 = .ok (.goto 7, 3) := by decide +kernel
theorem dX2_takesSign_12 : decode cX2_takesSign 12 = .ok (.aload_n 0, 1) := by decide +kernel
theorem dX2_takesSign_13 : decode cX2_takesSign 13 = .ok (.getfield 22, 3) := by decide +kernel
theorem dX2_takesSign_16 : decode cX2_takesSign 16 = .ok (.istore_n 2, 1) := by decide +kernel
theorem dX2_takesSign_17 : decode cX2_takesSign 17 = .ok (.aload_n 0, 1) := by decide +kernel
theorem dX2_takesSign_18 : decode cX2_takesSign 18 = .ok (.getfield 19, 3) := by decide +kernel
theorem dX2_takesSign_21 : decode cX2_takesSign 21 = .ok (.iload_n 2, 1) := by decide +kernel
theorem dX2_takesSign_22 : decode cX2_takesSign 22 = .ok (.if_icmp .ge 22, 3) := by decide +kernel
theorem dX2_takesSign_25 : decode cX2_takesSign 25 = .ok (.aload_n 0, 1) := by decide +kernel
theorem dX2_takesSign_26 : decode cX2_takesSign 26 = .ok (.getfield 15, 3) := by decide +kernel
theorem dX2_takesSign_29 : decode cX2_takesSign 29 = .ok (.ifCond .lt 15, 3) := by decide +kernel
theorem dX2_takesSign_32 : decode cX2_takesSign 32 = .ok (.aload_n 0, 1) := by decide +kernel
theorem dX2_takesSign_33 : decode cX2_takesSign 33 = .ok (.getfield 15, 3) := by decide +kernel
theorem dX2_takesSign_36 : decode cX2_takesSign 36 = .ok (.aload_n 0, 1) := by decide +kernel
theorem dX2_takesSign_37 : decode cX2_takesSign 37 = .ok (.getfield 9, 3) := by decide +kernel
theorem dX2_takesSign_40 : decode cX2_takesSign 40 = .ok (.arraylength, 1) := by decide +kernel
theorem dX2_takesSign_41 : decode cX2_takesSign 41 = .ok (.if_icmp .lt 5, 3) := by decide +kernel
theorem dX2_takesSign_44 : decode cX2_takesSign 44 = .ok (.iconst 0, 1) := by decide +kernel
theorem dX2_takesSign_45 : decode cX2_takesSign 45 = .ok (.ireturn, 1) := by decide +kernel
theorem dX2_takesSign_46 : decode cX2_takesSign 46 = .ok (.aload_n 0, 1) := by decide +kernel
theorem dX2_takesSign_47 : decode cX2_takesSign 47 = .ok (.getfield 9, 3) := by decide +kernel
theorem dX2_takesSign_50 : decode cX2_takesSign 50 = .ok (.aload_n 0, 1) := by decide +kernel
theorem dX2_takesSign_51 : decode cX2_takesSign 51 = .ok (.getfield 15, 3) := by decide +kernel
theorem dX2_takesSign_54 : decode cX2_takesSign 54 = .ok (.dup2, 1) := by decide +kernel
theorem dX2_takesSign_55 : decode cX2_takesSign 55 = .ok (.iaload, 1) := by decide +kernel
theorem dX2_takesSign_56 : decode cX2_takesSign 56 = .ok (.iload_n 1, 1) := by decide +kernel
theorem dX2_takesSign_57 : decode cX2_takesSign 57 = .ok (.aload_n 0, 1) := by decide +kernel
theorem dX2_takesSign_58 : decode cX2_takesSign 58 = .ok (.getfield 19, 3) := by decide +kernel
theorem dX2_takesSign_61 : decode cX2_takesSign 61 = .ok (.ishl, 1) := by decide +kernel
theorem dX2_takesSign_62 : decode cX2_takesSign 62 = .ok (.ior, 1) := by decide +kernel
theorem dX2_takesSign_63 : decode cX2_takesSign 63 = .ok (.iastore, 1) := by decide +kernel
theorem dX2_takesSign_64 : decode cX2_takesSign 64 = .ok (.aload_n 0, 1) := by decide +kernel
theorem dX2_takesSign_65 : decode cX2_takesSign 65 = .ok (.dup, 1) := by decide +kernel
theorem dX2_takesSign_66 : decode cX2_takesSign 66 = .ok (.getfield 19, 3) := by decide +kernel
theorem dX2_takesSign_69 : decode cX2_takesSign 69 = .ok (.iconst 1, 1) := by decide +kernel
theorem dX2_takesSign_70 : decode cX2_takesSign 70 = .ok (.iadd, 1) := by decide +kernel
theorem dX2_takesSign_71 : decode cX2_takesSign 71 = .ok (.putfield 19, 3) := by decide +kernel
theorem dX2_takesSign_74 : decode cX2_takesSign 74 = .ok (.iconst 1, 1) := by decide +kernel
theorem dX2_takesSign_75 : decode cX2_takesSign 75 = .ok (.ireturn, 1) := by decide +kernel
theorem dX2_rowIsWhole_0 : decode cX2_rowIsWhole 0 = .ok (.aload_n 0, 1) := by decide +kernel
theorem dX2_rowIsWhole_1 : decode cX2_rowIsWhole 1 = .ok (.getfield 15, 3) := by decide +kernel
theorem dX2_rowIsWhole_4 : decode cX2_rowIsWhole 4 = .ok (.ifCond .ne 19, 3) := by decide +kernel
theorem dX2_rowIsWhole_7 : decode cX2_rowIsWhole 7 = .ok (.aload_n 0, 1) := by decide +kernel
theorem dX2_rowIsWhole_8 : decode cX2_rowIsWhole 8 = .ok (.getfield 19, 3) := by decide +kernel
theorem dX2_rowIsWhole_11 : decode cX2_rowIsWhole 11 = .ok (.iconst 3, 1) := by decide +kernel
theorem dX2_rowIsWhole_12 : decode cX2_rowIsWhole 12 = .ok (.if_icmp .lt 7, 3) := by decide +kernel
theorem dX2_rowIsWhole_15 : decode cX2_rowIsWhole 15 = .ok (.iconst 1, 1) := by decide +kernel
theorem dX2_rowIsWhole_16 : decode cX2_rowIsWhole 16 = .ok (.goto 23, 3) := by decide +kernel
theorem dX2_rowIsWhole_19 : decode cX2_rowIsWhole 19 = .ok (.iconst 0, 1) := by decide +kernel
theorem dX2_rowIsWhole_20 : decode cX2_rowIsWhole 20 = .ok (.goto 19, 3) := by decide +kernel
theorem dX2_rowIsWhole_23 : decode cX2_rowIsWhole 23 = .ok (.aload_n 0, 1) := by decide +kernel
theorem dX2_rowIsWhole_24 : decode cX2_rowIsWhole 24 = .ok (.getfield 19, 3) := by decide +kernel
theorem dX2_rowIsWhole_27 : decode cX2_rowIsWhole 27 = .ok (.aload_n 0, 1) := by decide +kernel
theorem dX2_rowIsWhole_28 : decode cX2_rowIsWhole 28 = .ok (.getfield 22, 3) := by decide +kernel
theorem dX2_rowIsWhole_31 : decode cX2_rowIsWhole 31 = .ok (.if_icmp .ne 7, 3) := by decide +kernel
theorem dX2_rowIsWhole_34 : decode cX2_rowIsWhole 34 = .ok (.iconst 1, 1) := by decide +kernel
theorem dX2_rowIsWhole_35 : decode cX2_rowIsWhole 35 = .ok (.goto 4, 3) := by decide +kernel
theorem dX2_rowIsWhole_38 : decode cX2_rowIsWhole 38 = .ok (.iconst 0, 1) := by decide +kernel
theorem dX2_rowIsWhole_39 : decode cX2_rowIsWhole 39 = .ok (.ireturn, 1) := by decide +kernel
theorem dX2_rowsRead_0 : decode cX2_rowsRead 0 = .ok (.aload_n 0, 1) := by decide +kernel
theorem dX2_rowsRead_1 : decode cX2_rowsRead 1 = .ok (.getfield 15, 3) := by decide +kernel
theorem dX2_rowsRead_4 : decode cX2_rowsRead 4 = .ok (.iconst 1, 1) := by decide +kernel
theorem dX2_rowsRead_5 : decode cX2_rowsRead 5 = .ok (.iadd, 1) := by decide +kernel
theorem dX2_rowsRead_6 : decode cX2_rowsRead 6 = .ok (.ireturn, 1) := by decide +kernel
theorem dX2_signsOfRow_0 : decode cX2_signsOfRow 0 = .ok (.aload_n 0, 1) := by decide +kernel
theorem dX2_signsOfRow_1 : decode cX2_signsOfRow 1 = .ok (.getfield 19, 3) := by decide +kernel
theorem dX2_signsOfRow_4 : decode cX2_signsOfRow 4 = .ok (.ireturn, 1) := by decide +kernel
theorem dX2_rowAt_0 : decode cX2_rowAt 0 = .ok (.iload_n 1, 1) := by decide +kernel
theorem dX2_rowAt_1 : decode cX2_rowAt 1 = .ok (.ifCond .lt 21, 3) := by decide +kernel
theorem dX2_rowAt_4 : decode cX2_rowAt 4 = .ok (.iload_n 1, 1) := by decide +kernel
theorem dX2_rowAt_5 : decode cX2_rowAt 5 = .ok (.aload_n 0, 1) := by decide +kernel
theorem dX2_rowAt_6 : decode cX2_rowAt 6 = .ok (.getfield 9, 3) := by decide +kernel
theorem dX2_rowAt_9 : decode cX2_rowAt 9 = .ok (.arraylength, 1) := by decide +kernel
theorem dX2_rowAt_10 : decode cX2_rowAt 10 = .ok (.if_icmp .ge 12, 3) := by decide +kernel
theorem dX2_rowAt_13 : decode cX2_rowAt 13 = .ok (.aload_n 0, 1) := by decide +kernel
theorem dX2_rowAt_14 : decode cX2_rowAt 14 = .ok (.getfield 9, 3) := by decide +kernel
theorem dX2_rowAt_17 : decode cX2_rowAt 17 = .ok (.iload_n 1, 1) := by decide +kernel
theorem dX2_rowAt_18 : decode cX2_rowAt 18 = .ok (.iaload, 1) := by decide +kernel
theorem dX2_rowAt_19 : decode cX2_rowAt 19 = .ok (.goto 4, 3) := by decide +kernel
theorem dX2_rowAt_22 : decode cX2_rowAt 22 = .ok (.iconst 0, 1) := by decide +kernel
theorem dX2_rowAt_23 : decode cX2_rowAt 23 = .ok (.ireturn, 1) := by decide +kernel
theorem dX3_init_0 : decode cX3_init 0 = .ok (.aload_n 0, 1) := by decide +kernel
theorem dX3_init_1 : decode cX3_init 1 = .ok (.invokespecial 3, 3) := by decide +kernel
theorem dX3_init_4 : decode cX3_init 4 = .ok (.aload_n 0, 1) := by decide +kernel
theorem dX3_init_5 : decode cX3_init 5 = .ok (.iconst 5, 1) := by decide +kernel
theorem dX3_init_6 : decode cX3_init 6 = .ok (.newarray .int, 2) := by decide +kernel
theorem dX3_init_8 : decode cX3_init 8 = .ok (.putfield 9, 3) := by decide +kernel
theorem dX3_init_11 : decode cX3_init 11 = .ok (.aload_n 0, 1) := by decide +kernel
theorem dX3_init_12 : decode cX3_init 12 = .ok (.bipush 32, 2) := by decide +kernel
theorem dX3_init_14 : decode cX3_init 14 = .ok (.newarray .int, 2) := by decide +kernel
theorem dX3_init_16 : decode cX3_init 16 = .ok (.putfield 15, 3) := by decide +kernel
theorem dX3_init_19 : decode cX3_init 19 = .ok (.aload_n 0, 1) := by decide +kernel
theorem dX3_init_20 : decode cX3_init 20 = .ok (.bipush 11, 2) := by decide +kernel
theorem dX3_init_22 : decode cX3_init 22 = .ok (.newarray .int, 2) := by decide +kernel
theorem dX3_init_24 : decode cX3_init 24 = .ok (.putfield 18, 3) := by decide +kernel
theorem dX3_init_27 : decode cX3_init 27 = .ok (.aload_n 0, 1) := by decide +kernel
theorem dX3_init_28 : decode cX3_init 28 = .ok (.iconst 0, 1) := by decide +kernel
theorem dX3_init_29 : decode cX3_init 29 = .ok (.putfield 21, 3) := by decide +kernel
theorem dX3_init_32 : decode cX3_init 32 = .ok (.aload_n 0, 1) := by decide +kernel
theorem dX3_init_33 : decode cX3_init 33 = .ok (.iconst 0, 1) := by decide +kernel
theorem dX3_init_34 : decode cX3_init 34 = .ok (.putfield 25, 3) := by decide +kernel
theorem dX3_init_37 : decode cX3_init 37 = .ok (.aload_n 0, 1) := by decide +kernel
theorem dX3_init_38 : decode cX3_init 38 = .ok (.iconst 0, 1) := by decide +kernel
theorem dX3_init_39 : decode cX3_init 39 = .ok (.putfield 28, 3) := by decide +kernel
theorem dX3_init_42 : decode cX3_init 42 = .ok (.aload_n 0, 1) := by decide +kernel
theorem dX3_init_43 : decode cX3_init 43 = .ok (.iconst 0, 1) := by decide +kernel
theorem dX3_init_44 : decode cX3_init 44 = .ok (.putfield 31, 3) := by decide +kernel
theorem dX3_init_47 : decode cX3_init 47 = .ok (.aload_n 0, 1) := by decide +kernel
theorem dX3_init_48 : decode cX3_init 48 = .ok (.iconst 0, 1) := by decide +kernel
theorem dX3_init_49 : decode cX3_init 49 = .ok (.putfield 34, 3) := by decide +kernel
theorem dX3_init_52 : decode cX3_init 52 = .ok (.aload_n 0, 1) := by decide +kernel
theorem dX3_init_53 : decode cX3_init 53 = .ok (.iconst 0, 1) := by decide +kernel
theorem dX3_init_54 : decode cX3_init 54 = .ok (.putfield 37, 3) := by decide +kernel
theorem dX3_init_57 : decode cX3_init 57 = .ok (.return_, 1) := by decide +kernel
set_option maxRecDepth 20000 in
theorem ggX3_become_X2_rowsRead : GoodIn wsX3_become wsX2_rowsRead := goodIn_r _ [10, 11, 82, 83, 84, 85] (by decide +kernel) (by decide +kernel)
set_option maxRecDepth 20000 in
theorem gX3_become_X2_rowsRead : GoodIn wsX3_become (wsV RX3 40 RX2 yX2_rowsRead wsX2_rowsRead) := goodIn_app (goodIn_of _ (by decide +kernel)) ggX3_become_X2_rowsRead
set_option maxRecDepth 20000 in
theorem ggX3_become_X2_signsOfRow : GoodIn wsX3_become wsX2_signsOfRow := goodIn_r _ [15, 16, 82, 83, 84, 85] (by decide +kernel) (by decide +kernel)
set_option maxRecDepth 20000 in
theorem gX3_become_X2_signsOfRow : GoodIn wsX3_become (wsV RX3 46 RX2 yX2_signsOfRow wsX2_signsOfRow) := goodIn_app (goodIn_of _ (by decide +kernel)) ggX3_become_X2_signsOfRow
set_option maxRecDepth 20000 in
theorem ggX3_become_X2_rowAt : GoodIn wsX3_become wsX2_rowAt := goodIn_r _ [20, 21, 82, 83, 84, 85] (by decide +kernel) (by decide +kernel)
set_option maxRecDepth 20000 in
theorem gX3_become_X2_rowAt : GoodIn wsX3_become (wsV RX3 49 RX2 yX2_rowAt wsX2_rowAt) := goodIn_app (goodIn_of _ (by decide +kernel)) ggX3_become_X2_rowAt
set_option maxRecDepth 20000 in
theorem ggX3_become_X3_findLeaders : GoodIn wsX3_become wsX3_findLeaders := goodIn_r _ [26, 27, 28, 29, 30, 25, 31, 2, 32, 33, 34, 35, 1, 3, 36, 37, 38, 39, 40, 41, 42, 43, 44, 45, 46, 47, 48, 49, 50, 51, 52, 53, 54, 55, 56, 57, 73, 74, 75, 76, 77, 78, 79, 80, 81] (by decide +kernel) (by decide +kernel)
set_option maxRecDepth 20000 in
theorem gX3_become_X3_findLeaders : GoodIn wsX3_become (wsV RX3 53 RX3 yX3_findLeaders wsX3_findLeaders) := goodIn_app (goodIn_of _ (by decide +kernel)) ggX3_become_X3_findLeaders
set_option maxRecDepth 20000 in
theorem ggX3_become_X3_countLeaders : GoodIn wsX3_become wsX3_countLeaders := goodIn_r _ [61, 62, 63, 27, 64, 65, 66, 67, 68, 36, 37, 38, 39, 40, 41, 42, 73, 74, 75, 76, 77, 78, 79, 80, 81] (by decide +kernel) (by decide +kernel)
set_option maxRecDepth 20000 in
theorem gX3_become_X3_countLeaders : GoodIn wsX3_become (wsV RX3 56 RX3 yX3_countLeaders wsX3_countLeaders) := goodIn_app (goodIn_of _ (by decide +kernel)) ggX3_become_X3_countLeaders
set_option maxRecDepth 20000 in
theorem ggX3_become_X3_leastWeightWithoutSyndrome : GoodIn wsX3_become wsX3_leastWeightWithoutSyndrome := goodIn_r _ [72, 2, 28, 29, 30, 25, 31, 36, 37, 38, 39, 40, 41, 42, 32, 33, 34, 35, 1, 3, 73, 74, 75, 76, 77, 78, 79, 80, 81] (by decide +kernel) (by decide +kernel)
set_option maxRecDepth 20000 in
theorem gX3_become_X3_leastWeightWithoutSyndrome : GoodIn wsX3_become (wsV RX3 59 RX3 yX3_leastWeightWithoutSyndrome wsX3_leastWeightWithoutSyndrome) := goodIn_app (goodIn_of _ (by decide +kernel)) ggX3_become_X3_leastWeightWithoutSyndrome
theorem dX3_become_0 : decode cX3_become 0 = .ok (.aload_n 0, 1) := by decide +kernel
theorem dX3_become_1 : decode cX3_become 1 = .ok (.aload_n 1, 1) := by decide +kernel
theorem dX3_become_2 : decode cX3_become 2 = .ok (.invokevirtual 40, 3) := by decide +kernel
theorem dX3_become_5 : decode cX3_become 5 = .ok (.putfield 21, 3) := by decide +kernel
theorem dX3_become_8 : decode cX3_become 8 = .ok (.aload_n 0, 1) := by decide +kernel
theorem dX3_become_9 : decode cX3_become 9 = .ok (.aload_n 1, 1) := by decide +kernel
theorem dX3_become_10 : decode cX3_become 10 = .ok (.invokevirtual 46, 3) := by decide +kernel
theorem dX3_become_13 : decode cX3_become 13 = .ok (.putfield 25, 3) := by decide +kernel
theorem dX3_become_16 : decode cX3_become 16 = .ok (.iconst 0, 1) := by decide +kernel
theorem dX3_become_17 : decode cX3_become 17 = .ok (.istore_n 2, 1) := by decide +kernel
theorem dX3_become_18 : decode cX3_become 18 = .ok (.iload_n 2, 1) := by decide +kernel
theorem dX3_become_19 : decode cX3_become 19 = .ok (.aload_n 0, 1) := by decide +kernel
theorem dX3_become_20 : decode cX3_become 20 = .ok (.getfield 9, 3) := by decide +kernel
theorem dX3_become_23 : decode cX3_become 23 = .ok (.arraylength, 1) := by decide +kernel
theorem dX3_become_24 : decode cX3_become 24 = .ok (.if_icmp .ge 20, 3) := by decide +kernel
theorem dX3_become_27 : decode cX3_become 27 = .ok (.aload_n 0, 1) := by decide +kernel
theorem dX3_become_28 : decode cX3_become 28 = .ok (.getfield 9, 3) := by decide +kernel
theorem dX3_become_31 : decode cX3_become 31 = .ok (.iload_n 2, 1) := by decide +kernel
theorem dX3_become_32 : decode cX3_become 32 = .ok (.aload_n 1, 1) := by decide +kernel
theorem dX3_become_33 : decode cX3_become 33 = .ok (.iload_n 2, 1) := by decide +kernel
theorem dX3_become_34 : decode cX3_become 34 = .ok (.invokevirtual 49, 3) := by decide +kernel
theorem dX3_become_37 : decode cX3_become 37 = .ok (.iastore, 1) := by decide +kernel
theorem dX3_become_38 : decode cX3_become 38 = .ok (.iinc 2 1, 3) := by decide +kernel
theorem dX3_become_41 : decode cX3_become 41 = .ok (.goto (-23), 3) := by decide +kernel
theorem dX3_become_44 : decode cX3_become 44 = .ok (.aload_n 0, 1) := by decide +kernel
theorem dX3_become_45 : decode cX3_become 45 = .ok (.invokevirtual 53, 3) := by decide +kernel
theorem dX3_become_48 : decode cX3_become 48 = .ok (.aload_n 0, 1) := by decide +kernel
theorem dX3_become_49 : decode cX3_become 49 = .ok (.invokevirtual 56, 3) := by decide +kernel
theorem dX3_become_52 : decode cX3_become 52 = .ok (.aload_n 0, 1) := by decide +kernel
theorem dX3_become_53 : decode cX3_become 53 = .ok (.aload_n 0, 1) := by decide +kernel
theorem dX3_become_54 : decode cX3_become 54 = .ok (.invokevirtual 59, 3) := by decide +kernel
theorem dX3_become_57 : decode cX3_become 57 = .ok (.putfield 31, 3) := by decide +kernel
theorem dX3_become_60 : decode cX3_become 60 = .ok (.aload_n 0, 1) := by decide +kernel
theorem dX3_become_61 : decode cX3_become 61 = .ok (.aload_n 0, 1) := by decide +kernel
theorem dX3_become_62 : decode cX3_become 62 = .ok (.getfield 31, 3) := by decide +kernel
theorem dX3_become_65 : decode cX3_become 65 = .ok (.aload_n 0, 1) := by decide +kernel
theorem dX3_become_66 : decode cX3_become 66 = .ok (.getfield 25, 3) := by decide +kernel
theorem dX3_become_69 : decode cX3_become 69 = .ok (.if_icmp .le 10, 3) := by decide +kernel
theorem dX3_become_72 : decode cX3_become 72 = .ok (.aload_n 0, 1) := by decide +kernel
theorem dX3_become_73 : decode cX3_become 73 = .ok (.getfield 25, 3) := by decide +kernel
theorem dX3_become_76 : decode cX3_become 76 = .ok (.goto 11, 3) := by decide +kernel
theorem dX3_become_79 : decode cX3_become 79 = .ok (.aload_n 0, 1) := by decide +kernel
theorem dX3_become_80 : decode cX3_become 80 = .ok (.getfield 31, 3) := by decide +kernel
theorem dX3_become_83 : decode cX3_become 83 = .ok (.iconst 1, 1) := by decide +kernel
theorem dX3_become_84 : decode cX3_become 84 = .ok (.isub, 1) := by decide +kernel
theorem dX3_become_85 : decode cX3_become 85 = .ok (.iconst 2, 1) := by decide +kernel
theorem dX3_become_86 : decode cX3_become 86 = .ok (.idiv, 1) := by decide +kernel
theorem dX3_become_87 : decode cX3_become 87 = .ok (.putfield 34, 3) := by decide +kernel
theorem dX3_become_90 : decode cX3_become 90 = .ok (.return_, 1) := by decide +kernel
set_option maxRecDepth 20000 in
theorem ggX3_findLeaders_X3_words : GoodIn wsX3_findLeaders wsX3_words := goodIn_r _ [6, 7, 36, 37, 38, 39, 40, 41, 42, 43, 44] (by decide +kernel) (by decide +kernel)
set_option maxRecDepth 20000 in
theorem gX3_findLeaders_X3_words : GoodIn wsX3_findLeaders (wsV RX3 62 RX3 yX3_words wsX3_words) := goodIn_app (goodIn_of _ (by decide +kernel)) ggX3_findLeaders_X3_words
set_option maxRecDepth 20000 in
theorem ggX3_findLeaders_X3_syndromeOf : GoodIn wsX3_findLeaders wsX3_syndromeOf := goodIn_r _ [11, 12, 13, 14, 15, 16, 17, 18, 19, 20, 36, 37, 38, 39, 40, 41, 42, 43, 44] (by decide +kernel) (by decide +kernel)
set_option maxRecDepth 20000 in
theorem gX3_findLeaders_X3_syndromeOf : GoodIn wsX3_findLeaders (wsV RX3 65 RX3 yX3_syndromeOf wsX3_syndromeOf) := goodIn_app (goodIn_of _ (by decide +kernel)) ggX3_findLeaders_X3_syndromeOf
set_option maxRecDepth 20000 in
theorem ggX3_findLeaders_X3_isSyndrome : GoodIn wsX3_findLeaders wsX3_isSyndrome := goodIn_r _ [24, 1, 25, 26, 27, 5, 28, 12, 36, 37, 38, 39, 40, 41, 42, 43, 44] (by decide +kernel) (by decide +kernel)
set_option maxRecDepth 20000 in
theorem gX3_findLeaders_X3_isSyndrome : GoodIn wsX3_findLeaders (wsV RX3 68 RX3 yX3_isSyndrome wsX3_isSyndrome) := goodIn_app (goodIn_of _ (by decide +kernel)) ggX3_findLeaders_X3_isSyndrome
set_option maxRecDepth 20000 in
theorem ggX3_findLeaders_X3_leaderOf : GoodIn wsX3_findLeaders wsX3_leaderOf := goodIn_r _ [32, 1, 21, 22, 23, 5, 24, 25, 26, 27, 28, 12, 36, 37, 38, 39, 40, 41, 42, 43, 44] (by decide +kernel) (by decide +kernel)
set_option maxRecDepth 20000 in
theorem gX3_findLeaders_X3_leaderOf : GoodIn wsX3_findLeaders (wsV RX3 72 RX3 yX3_leaderOf wsX3_leaderOf) := goodIn_app (goodIn_of _ (by decide +kernel)) ggX3_findLeaders_X3_leaderOf
set_option maxRecDepth 20000 in
theorem ggX3_findLeaders_X3_isNearer : GoodIn wsX3_findLeaders wsX3_isNearer := goodIn_r _ [35, 14, 15, 16, 17, 18, 19, 20] (by decide +kernel) (by decide +kernel)
set_option maxRecDepth 20000 in
theorem gX3_findLeaders_X3_isNearer : GoodIn wsX3_findLeaders (va_wsS RX3 75 yX3_isNearer wsX3_isNearer) := goodIn_app (goodIn_of _ (by decide +kernel)) ggX3_findLeaders_X3_isNearer
theorem dX3_findLeaders_0 : decode cX3_findLeaders 0 = .ok (.iconst 0, 1) := by decide +kernel
theorem dX3_findLeaders_1 : decode cX3_findLeaders 1 = .ok (.istore_n 1, 1) := by decide +kernel
theorem dX3_findLeaders_2 : decode cX3_findLeaders 2 = .ok (.iload_n 1, 1) := by decide +kernel
theorem dX3_findLeaders_3 : decode cX3_findLeaders 3 = .ok (.aload_n 0, 1) := by decide +kernel
theorem dX3_findLeaders_4 : decode cX3_findLeaders 4 = .ok (.getfield 15, 3) := by decide +kernel
theorem dX3_findLeaders_7 : decode cX3_findLeaders 7 = .ok (.arraylength, 1) := by decide +kernel
theorem dX3_findLeaders_8 : decode cX3_findLeaders 8 = .ok (.if_icmp .ge 18, 3) := by decide +kernel
theorem dX3_findLeaders_11 : decode cX3_findLeaders 11 = .ok (.aload_n 0, 1) := by decide +kernel
theorem dX3_findLeaders_12 : decode cX3_findLeaders 12 = .ok (.getfield 15, 3) := by decide +kernel
theorem dX3_findLeaders_15 : decode cX3_findLeaders 15 = .ok (.iload_n 1, 1) := by decide +kernel
theorem dX3_findLeaders_16 : decode cX3_findLeaders 16 = .ok (.sipush (-1001), 3) := by decide +kernel
theorem dX3_findLeaders_19 : decode cX3_findLeaders 19 = .ok (.iastore, 1) := by decide +kernel
theorem dX3_findLeaders_20 : decode cX3_findLeaders 20 = .ok (.iinc 1 1, 3) := by decide +kernel
theorem dX3_findLeaders_23 : decode cX3_findLeaders 23 = .ok (.goto (-21), 3) := by decide +kernel
theorem dX3_findLeaders_26 : decode cX3_findLeaders 26 = .ok (.aload_n 0, 1) := by decide +kernel
theorem dX3_findLeaders_27 : decode cX3_findLeaders 27 = .ok (.invokevirtual 62, 3) := by decide +kernel
theorem dX3_findLeaders_30 : decode cX3_findLeaders 30 = .ok (.istore_n 1, 1) := by decide +kernel
theorem dX3_findLeaders_31 : decode cX3_findLeaders 31 = .ok (.iconst 0, 1) := by decide +kernel
theorem dX3_findLeaders_32 : decode cX3_findLeaders 32 = .ok (.istore_n 2, 1) := by decide +kernel
theorem dX3_findLeaders_33 : decode cX3_findLeaders 33 = .ok (.iload_n 2, 1) := by decide +kernel
theorem dX3_findLeaders_34 : decode cX3_findLeaders 34 = .ok (.iload_n 1, 1) := by decide +kernel
theorem dX3_findLeaders_35 : decode cX3_findLeaders 35 = .ok (.if_icmp .ge 42, 3) := by decide +kernel
theorem dX3_findLeaders_38 : decode cX3_findLeaders 38 = .ok (.aload_n 0, 1) := by decide +kernel
theorem dX3_findLeaders_39 : decode cX3_findLeaders 39 = .ok (.iload_n 2, 1) := by decide +kernel
theorem dX3_findLeaders_40 : decode cX3_findLeaders 40 = .ok (.invokevirtual 65, 3) := by decide +kernel
theorem dX3_findLeaders_43 : decode cX3_findLeaders 43 = .ok (.istore_n 3, 1) := by decide +kernel
theorem dX3_findLeaders_44 : decode cX3_findLeaders 44 = .ok (.aload_n 0, 1) := by decide +kernel
theorem dX3_findLeaders_45 : decode cX3_findLeaders 45 = .ok (.iload_n 3, 1) := by decide +kernel
theorem dX3_findLeaders_46 : decode cX3_findLeaders 46 = .ok (.invokevirtual 68, 3) := by decide +kernel
theorem dX3_findLeaders_49 : decode cX3_findLeaders 49 = .ok (.ifCond .eq 22, 3) := by decide +kernel
theorem dX3_findLeaders_52 : decode cX3_findLeaders 52 = .ok (.iload_n 2, 1) := by decide +kernel
theorem dX3_findLeaders_53 : decode cX3_findLeaders 53 = .ok (.aload_n 0, 1) := by decide +kernel
theorem dX3_findLeaders_54 : decode cX3_findLeaders 54 = .ok (.iload_n 3, 1) := by decide +kernel
theorem dX3_findLeaders_55 : decode cX3_findLeaders 55 = .ok (.invokevirtual 72, 3) := by decide +kernel
theorem dX3_findLeaders_58 : decode cX3_findLeaders 58 = .ok (.invokestatic 75, 3) := by decide +kernel
theorem dX3_findLeaders_61 : decode cX3_findLeaders 61 = .ok (.ifCond .eq 10, 3) := by decide +kernel
theorem dX3_findLeaders_64 : decode cX3_findLeaders 64 = .ok (.aload_n 0, 1) := by decide +kernel
theorem dX3_findLeaders_65 : decode cX3_findLeaders 65 = .ok (.getfield 15, 3) := by decide +kernel
theorem dX3_findLeaders_68 : decode cX3_findLeaders 68 = .ok (.iload_n 3, 1) := by decide +kernel
theorem dX3_findLeaders_69 : decode cX3_findLeaders 69 = .ok (.iload_n 2, 1) := by decide +kernel
theorem dX3_findLeaders_70 : decode cX3_findLeaders 70 = .ok (.iastore, 1) := by decide +kernel
theorem dX3_findLeaders_71 : decode cX3_findLeaders 71 = .ok (.iinc 2 1, 3) := by decide +kernel
theorem dX3_findLeaders_74 : decode cX3_findLeaders 74 = .ok (.goto (-41), 3) := by decide +kernel
theorem dX3_findLeaders_77 : decode cX3_findLeaders 77 = .ok (.return_, 1) := by decide +kernel
set_option maxRecDepth 20000 in
theorem ggX3_isNearer_J6_bitCount_0f7a4 : GoodIn wsX3_isNearer wsJ6_bitCount_0f7a4 := goodIn_r _ [4, 5, 6, 7] (by decide +kernel) (by decide +kernel)
set_option maxRecDepth 20000 in
theorem gX3_isNearer_J6_bitCount_0f7a4 : GoodIn wsX3_isNearer (va_wsS RX3 79 yJ6_bitCount_0f7a4 wsJ6_bitCount_0f7a4) := goodIn_app (goodIn_of _ (by decide +kernel)) ggX3_isNearer_J6_bitCount_0f7a4
theorem dX3_isNearer_0 : decode cX3_isNearer 0 = .ok (.iload_n 1, 1) := by decide +kernel
theorem dX3_isNearer_1 : decode cX3_isNearer 1 = .ok (.sipush (-1001), 3) := by decide +kernel
theorem dX3_isNearer_4 : decode cX3_isNearer 4 = .ok (.if_icmp .eq 14, 3) := by decide +kernel
theorem dX3_isNearer_7 : decode cX3_isNearer 7 = .ok (.iload_n 0, 1) := by decide +kernel
theorem dX3_isNearer_8 : decode cX3_isNearer 8 = .ok (.invokestatic 79, 3) := by decide +kernel
theorem dX3_isNearer_11 : decode cX3_isNearer 11 = .ok (.iload_n 1, 1) := by decide +kernel
theorem dX3_isNearer_12 : decode cX3_isNearer 12 = .ok (.invokestatic 79, 3) := by decide +kernel
theorem dX3_isNearer_15 : decode cX3_isNearer 15 = .ok (.if_icmp .ge 7, 3) := by decide +kernel
theorem dX3_isNearer_18 : decode cX3_isNearer 18 = .ok (.iconst 1, 1) := by decide +kernel
theorem dX3_isNearer_19 : decode cX3_isNearer 19 = .ok (.goto 4, 3) := by decide +kernel
theorem dX3_isNearer_22 : decode cX3_isNearer 22 = .ok (.iconst 0, 1) := by decide +kernel
theorem dX3_isNearer_23 : decode cX3_isNearer 23 = .ok (.ireturn, 1) := by decide +kernel
set_option maxRecDepth 20000 in
theorem ggX3_countLeaders_J6_bitCount_0f7a4 : GoodIn wsX3_countLeaders wsJ6_bitCount_0f7a4 := goodIn_r _ [12, 13, 14, 15] (by decide +kernel) (by decide +kernel)
set_option maxRecDepth 20000 in
theorem gX3_countLeaders_J6_bitCount_0f7a4 : GoodIn wsX3_countLeaders (va_wsS RX3 79 yJ6_bitCount_0f7a4 wsJ6_bitCount_0f7a4) := goodIn_app (goodIn_of _ (by decide +kernel)) ggX3_countLeaders_J6_bitCount_0f7a4
theorem dX3_countLeaders_0 : decode cX3_countLeaders 0 = .ok (.iconst 0, 1) := by decide +kernel
theorem dX3_countLeaders_1 : decode cX3_countLeaders 1 = .ok (.istore_n 1, 1) := by decide +kernel
theorem dX3_countLeaders_2 : decode cX3_countLeaders 2 = .ok (.iload_n 1, 1) := by decide +kernel
theorem dX3_countLeaders_3 : decode cX3_countLeaders 3 = .ok (.aload_n 0, 1) := by decide +kernel
theorem dX3_countLeaders_4 : decode cX3_countLeaders 4 = .ok (.getfield 18, 3) := by decide +kernel
theorem dX3_countLeaders_7 : decode cX3_countLeaders 7 = .ok (.arraylength, 1) := by decide +kernel
theorem dX3_countLeaders_8 : decode cX3_countLeaders 8 = .ok (.if_icmp .ge 16, 3) := by decide +kernel
theorem dX3_countLeaders_11 : decode cX3_countLeaders 11 = .ok (.aload_n 0, 1) := by decide +kernel
theorem dX3_countLeaders_12 : decode cX3_countLeaders 12 = .ok (.getfield 18, 3) := by decide +kernel
theorem dX3_countLeaders_15 : decode cX3_countLeaders 15 = .ok (.iload_n 1, 1) := by decide +kernel
theorem dX3_countLeaders_16 : decode cX3_countLeaders 16 = .ok (.iconst 0, 1) := by decide +kernel
theorem dX3_countLeaders_17 : decode cX3_countLeaders 17 = .ok (.iastore, 1) := by decide +kernel
theorem dX3_countLeaders_18 : decode cX3_countLeaders 18 = .ok (.iinc 1 1, 3) := by decide +kernel
theorem dX3_countLeaders_21 : decode cX3_countLeaders 21 = .ok (.goto (-19), 3) := by decide +kernel
theorem dX3_countLeaders_24 : decode cX3_countLeaders 24 = .ok (.iconst 0, 1) := by decide +kernel
theorem dX3_countLeaders_25 : decode cX3_countLeaders 25 = .ok (.istore_n 1, 1) := by decide +kernel
theorem dX3_countLeaders_26 : decode cX3_countLeaders 26 = .ok (.aload_n 0, 1) := by decide +kernel
theorem dX3_countLeaders_27 : decode cX3_countLeaders 27 = .ok (.iconst 0, 1) := by decide +kernel
theorem dX3_countLeaders_28 : decode cX3_countLeaders 28 = .ok (.putfield 37, 3) := by decide +kernel
theorem dX3_countLeaders_31 : decode cX3_countLeaders 31 = .ok (.iconst 0, 1) := by decide +kernel
theorem dX3_countLeaders_32 : decode cX3_countLeaders 32 = .ok (.istore_n 2, 1) := by decide +kernel
theorem dX3_countLeaders_33 : decode cX3_countLeaders 33 = .ok (.iload_n 2, 1) := by decide +kernel
theorem dX3_countLeaders_34 : decode cX3_countLeaders 34 = .ok (.aload_n 0, 1) := by decide +kernel
theorem dX3_countLeaders_35 : decode cX3_countLeaders 35 = .ok (.getfield 15, 3) := by decide +kernel
theorem dX3_countLeaders_38 : decode cX3_countLeaders 38 = .ok (.arraylength, 1) := by decide +kernel
theorem dX3_countLeaders_39 : decode cX3_countLeaders 39 = .ok (.if_icmp .ge 65, 3) := by decide +kernel
theorem dX3_countLeaders_42 : decode cX3_countLeaders 42 = .ok (.aload_n 0, 1) := by decide +kernel
theorem dX3_countLeaders_43 : decode cX3_countLeaders 43 = .ok (.getfield 15, 3) := by decide +kernel
theorem dX3_countLeaders_46 : decode cX3_countLeaders 46 = .ok (.iload_n 2, 1) := by decide +kernel
theorem dX3_countLeaders_47 : decode cX3_countLeaders 47 = .ok (.iaload, 1) := by decide +kernel
theorem dX3_countLeaders_48 : decode cX3_countLeaders 48 = .ok (.sipush (-1001), 3) := by decide +kernel
theorem dX3_countLeaders_51 : decode cX3_countLeaders 51 = .ok (.if_icmp .eq 47, 3) := by decide +kernel
theorem dX3_countLeaders_54 : decode cX3_countLeaders 54 = .ok (.aload_n 0, 1) := by decide +kernel
theorem dX3_countLeaders_55 : decode cX3_countLeaders 55 = .ok (.getfield 15, 3) := by decide +kernel
theorem dX3_countLeaders_58 : decode cX3_countLeaders 58 = .ok (.iload_n 2, 1) := by decide +kernel
theorem dX3_countLeaders_59 : decode cX3_countLeaders 59 = .ok (.iaload, 1) := by decide +kernel
theorem dX3_countLeaders_60 : decode cX3_countLeaders 60 = .ok (.invokestatic 79, 3) := by decide +kernel
theorem dX3_countLeaders_63 : decode cX3_countLeaders 63 = .ok (.istore_n 3, 1) := by decide +kernel
theorem dX3_countLeaders_64 : decode cX3_countLeaders 64 = .ok (.iinc 1 1, 3) := by decide +kernel
theorem dX3_countLeaders_67 : decode cX3_countLeaders 67 = .ok (.aload_n 0, 1) := by decide +kernel
theorem dX3_countLeaders_68 : decode cX3_countLeaders 68 = .ok (.aload_n 0, 1) := by decide +kernel
theorem dX3_countLeaders_69 : decode cX3_countLeaders 69 = .ok (.getfield 37, 3) := by decide +kernel
theorem dX3_countLeaders_72 : decode cX3_countLeaders 72 = .ok (.iload_n 3, 1) := by decide +kernel
theorem dX3_countLeaders_73 : decode cX3_countLeaders 73 = .ok (.invokestatic 84, 3) := by decide +kernel
theorem dX3_countLeaders_76 : decode cX3_countLeaders 76 = .ok (.putfield 37, 3) := by decide +kernel
theorem dX3_countLeaders_79 : decode cX3_countLeaders 79 = .ok (.iload_n 3, 1) := by decide +kernel
theorem dX3_countLeaders_80 : decode cX3_countLeaders 80 = .ok (.aload_n 0, 1) := by decide +kernel
theorem dX3_countLeaders_81 : decode cX3_countLeaders 81 = .ok (.getfield 18, 3) := by decide +kernel
theorem dX3_countLeaders_84 : decode cX3_countLeaders 84 = .ok (.arraylength, 1) := by decide +kernel
theorem dX3_countLeaders_85 : decode cX3_countLeaders 85 = .ok (.if_icmp .ge 13, 3) := by decide +kernel
theorem dX3_countLeaders_88 : decode cX3_countLeaders 88 = .ok (.aload_n 0, 1) := by decide +kernel
theorem dX3_countLeaders_89 : decode cX3_countLeaders 89 = .ok (.getfield 18, 3) := by decide +kernel
theorem dX3_countLeaders_92 : decode cX3_countLeaders 92 = .ok (.iload_n 3, 1) := by decide +kernel
theorem dX3_countLeaders_93 : decode cX3_countLeaders 93 = .ok (.dup2, 1) := by decide +kernel
theorem dX3_countLeaders_94 : decode cX3_countLeaders 94 = .ok (.iaload, 1) := by decide +kernel
theorem dX3_countLeaders_95 : decode cX3_countLeaders 95 = .ok (.iconst 1, 1) := by decide +kernel
theorem dX3_countLeaders_96 : decode cX3_countLeaders 96 = .ok (.iadd, 1) := by decide +kernel
theorem dX3_countLeaders_97 : decode cX3_countLeaders 97 = .ok (.iastore, 1) := by decide +kernel
theorem dX3_countLeaders_98 : decode cX3_countLeaders 98 = .ok (.iinc 2 1, 3) := by decide +kernel
theorem dX3_countLeaders_101 : decode cX3_countLeaders 101 = .ok (.goto (-68), 3) := by decide +kernel
theorem dX3_countLeaders_104 : decode cX3_countLeaders 104 = .ok (.aload_n 0, 1) := by decide +kernel
theorem dX3_countLeaders_105 : decode cX3_countLeaders 105 = .ok (.iload_n 1, 1) := by decide +kernel
theorem dX3_countLeaders_106 : decode cX3_countLeaders 106 = .ok (.iconst 1, 1) := by decide +kernel
theorem dX3_countLeaders_107 : decode cX3_countLeaders 107 = .ok (.isub, 1) := by decide +kernel
theorem dX3_countLeaders_108 : decode cX3_countLeaders 108 = .ok (.invokestatic 79, 3) := by decide +kernel
theorem dX3_countLeaders_111 : decode cX3_countLeaders 111 = .ok (.putfield 28, 3) := by decide +kernel
theorem dX3_countLeaders_114 : decode cX3_countLeaders 114 = .ok (.return_, 1) := by decide +kernel
set_option maxRecDepth 20000 in
theorem ggX3_leastWeightWithoutSyndrome_X3_words : GoodIn wsX3_leastWeightWithoutSyndrome wsX3_words := goodIn_r _ [6, 1, 20, 21, 22, 23, 24, 25, 26, 27, 28] (by decide +kernel) (by decide +kernel)
set_option maxRecDepth 20000 in
theorem gX3_leastWeightWithoutSyndrome_X3_words : GoodIn wsX3_leastWeightWithoutSyndrome (wsV RX3 62 RX3 yX3_words wsX3_words) := goodIn_app (goodIn_of _ (by decide +kernel)) ggX3_leastWeightWithoutSyndrome_X3_words
set_option maxRecDepth 20000 in
theorem ggX3_leastWeightWithoutSyndrome_J6_bitCount_0f7a4 : GoodIn wsX3_leastWeightWithoutSyndrome wsJ6_bitCount_0f7a4 := goodIn_r _ [10, 11, 12, 13] (by decide +kernel) (by decide +kernel)
set_option maxRecDepth 20000 in
theorem gX3_leastWeightWithoutSyndrome_J6_bitCount_0f7a4 : GoodIn wsX3_leastWeightWithoutSyndrome (va_wsS RX3 79 yJ6_bitCount_0f7a4 wsJ6_bitCount_0f7a4) := goodIn_app (goodIn_of _ (by decide +kernel)) ggX3_leastWeightWithoutSyndrome_J6_bitCount_0f7a4
set_option maxRecDepth 20000 in
theorem ggX3_leastWeightWithoutSyndrome_X3_syndromeOf : GoodIn wsX3_leastWeightWithoutSyndrome wsX3_syndromeOf := goodIn_r _ [17, 18, 19, 7, 8, 9, 10, 11, 12, 13, 20, 21, 22, 23, 24, 25, 26, 27, 28] (by decide +kernel) (by decide +kernel)
set_option maxRecDepth 20000 in
theorem gX3_leastWeightWithoutSyndrome_X3_syndromeOf : GoodIn wsX3_leastWeightWithoutSyndrome (wsV RX3 65 RX3 yX3_syndromeOf wsX3_syndromeOf) := goodIn_app (goodIn_of _ (by decide +kernel)) ggX3_leastWeightWithoutSyndrome_X3_syndromeOf
theorem dX3_leastWeightWithoutSyndrome_0 : decode cX3_leastWeightWithoutSyndrome 0 = .ok (.aload_n 0, 1) := by decide +kernel
theorem dX3_leastWeightWithoutSyndrome_1 : decode cX3_leastWeightWithoutSyndrome 1 = .ok (.invokevirtual 62, 3) := by decide +kernel
theorem dX3_leastWeightWithoutSyndrome_4 : decode cX3_leastWeightWithoutSyndrome 4 = .ok (.istore_n 1, 1) := by decide +kernel
theorem dX3_leastWeightWithoutSyndrome_5 : decode cX3_leastWeightWithoutSyndrome 5 = .ok (.aload_n 0, 1) := by decide +kernel
theorem dX3_leastWeightWithoutSyndrome_6 : decode cX3_leastWeightWithoutSyndrome 6 = .ok (.getfield 25, 3) := by decide +kernel
theorem dX3_leastWeightWithoutSyndrome_9 : decode cX3_leastWeightWithoutSyndrome 9 = .ok (.iconst 1, 1) := by decide +kernel
theorem dX3_leastWeightWithoutSyndrome_10 : decode cX3_leastWeightWithoutSyndrome 10 = .ok (.iadd, 1) := by decide +kernel
theorem dX3_leastWeightWithoutSyndrome_11 : decode cX3_leastWeightWithoutSyndrome 11 = .ok (.istore_n 2, 1) := by decide +kernel
theorem dX3_leastWeightWithoutSyndrome_12 : decode cX3_leastWeightWithoutSyndrome 12 = .ok (.iconst 1, 1) := by decide +kernel
theorem dX3_leastWeightWithoutSyndrome_13 : decode cX3_leastWeightWithoutSyndrome 13 = .ok (.istore_n 3, 1) := by decide +kernel
theorem dX3_leastWeightWithoutSyndrome_14 : decode cX3_leastWeightWithoutSyndrome 14 = .ok (.iload_n 3, 1) := by decide +kernel
theorem dX3_leastWeightWithoutSyndrome_15 : decode cX3_leastWeightWithoutSyndrome 15 = .ok (.iload_n 1, 1) := by decide +kernel
theorem dX3_leastWeightWithoutSyndrome_16 : decode cX3_leastWeightWithoutSyndrome 16 = .ok (.if_icmp .ge 32, 3) := by decide +kernel
theorem dX3_leastWeightWithoutSyndrome_19 : decode cX3_leastWeightWithoutSyndrome 19 = .ok (.iload_n 3, 1) := by decide +kernel
theorem dX3_leastWeightWithoutSyndrome_20 : decode cX3_leastWeightWithoutSyndrome 20 = .ok (.invokestatic 79, 3) := by decide +kernel
theorem dX3_leastWeightWithoutSyndrome_23 : decode cX3_leastWeightWithoutSyndrome 23 = .ok (.istore 4, 2) := by decide +kernel
theorem dX3_leastWeightWithoutSyndrome_25 : decode cX3_leastWeightWithoutSyndrome 25 = .ok (.iload 4, 2) := by decide +kernel
theorem dX3_leastWeightWithoutSyndrome_27 : decode cX3_leastWeightWithoutSyndrome 27 = .ok (.iload_n 2, 1) := by decide +kernel
theorem dX3_leastWeightWithoutSyndrome_28 : decode cX3_leastWeightWithoutSyndrome 28 = .ok (.if_icmp .ge 14, 3) := by decide +kernel
theorem dX3_leastWeightWithoutSyndrome_31 : decode cX3_leastWeightWithoutSyndrome 31 = .ok (.aload_n 0, 1) := by decide +kernel
theorem dX3_leastWeightWithoutSyndrome_32 : decode cX3_leastWeightWithoutSyndrome 32 = .ok (.iload_n 3, 1) := by decide +kernel
theorem dX3_leastWeightWithoutSyndrome_33 : decode cX3_leastWeightWithoutSyndrome 33 = .ok (.invokevirtual 65, 3) := by decide +kernel
theorem dX3_leastWeightWithoutSyndrome_36 : decode cX3_leastWeightWithoutSyndrome 36 = .ok (.ifCond .ne 6, 3) := by decide +kernel
theorem dX3_leastWeightWithoutSyndrome_39 : decode cX3_leastWeightWithoutSyndrome 39 = .ok (.iload 4, 2) := by decide +kernel
theorem dX3_leastWeightWithoutSyndrome_41 : decode cX3_leastWeightWithoutSyndrome 41 = .ok (.istore_n 2, 1) := by decide +kernel
theorem dX3_leastWeightWithoutSyndrome_42 : decode cX3_leastWeightWithoutSyndrome 42 = .ok (.iinc 3 1, 3) := by decide +kernel
theorem dX3_leastWeightWithoutSyndrome_45 : decode cX3_leastWeightWithoutSyndrome 45 = .ok (.goto (-31), 3) := by decide +kernel
theorem dX3_leastWeightWithoutSyndrome_48 : decode cX3_leastWeightWithoutSyndrome 48 = .ok (.iload_n 2, 1) := by decide +kernel
theorem dX3_leastWeightWithoutSyndrome_49 : decode cX3_leastWeightWithoutSyndrome 49 = .ok (.ireturn, 1) := by decide +kernel
theorem dX3_areThere_0 : decode cX3_areThere 0 = .ok (.aload_n 0, 1) := by decide +kernel
theorem dX3_areThere_1 : decode cX3_areThere 1 = .ok (.getfield 25, 3) := by decide +kernel
theorem dX3_areThere_4 : decode cX3_areThere 4 = .ok (.ifCond .le 7, 3) := by decide +kernel
theorem dX3_areThere_7 : decode cX3_areThere 7 = .ok (.iconst 1, 1) := by decide +kernel
theorem dX3_areThere_8 : decode cX3_areThere 8 = .ok (.goto 4, 3) := by decide +kernel
theorem dX3_areThere_11 : decode cX3_areThere 11 = .ok (.iconst 0, 1) := by decide +kernel
theorem dX3_areThere_12 : decode cX3_areThere 12 = .ok (.ireturn, 1) := by decide +kernel
theorem dX3_length_0 : decode cX3_length 0 = .ok (.aload_n 0, 1) := by decide +kernel
theorem dX3_length_1 : decode cX3_length 1 = .ok (.getfield 25, 3) := by decide +kernel
theorem dX3_length_4 : decode cX3_length 4 = .ok (.ireturn, 1) := by decide +kernel
theorem dX3_rowCount_0 : decode cX3_rowCount 0 = .ok (.aload_n 0, 1) := by decide +kernel
theorem dX3_rowCount_1 : decode cX3_rowCount 1 = .ok (.getfield 21, 3) := by decide +kernel
theorem dX3_rowCount_4 : decode cX3_rowCount 4 = .ok (.ireturn, 1) := by decide +kernel
theorem dX3_words_0 : decode cX3_words 0 = .ok (.iconst 1, 1) := by decide +kernel
theorem dX3_words_1 : decode cX3_words 1 = .ok (.aload_n 0, 1) := by decide +kernel
theorem dX3_words_2 : decode cX3_words 2 = .ok (.getfield 25, 3) := by decide +kernel
theorem dX3_words_5 : decode cX3_words 5 = .ok (.ishl, 1) := by decide +kernel
theorem dX3_words_6 : decode cX3_words 6 = .ok (.ireturn, 1) := by decide +kernel
theorem dX3_syndromes_0 : decode cX3_syndromes 0 = .ok (.iconst 1, 1) := by decide +kernel
theorem dX3_syndromes_1 : decode cX3_syndromes 1 = .ok (.aload_n 0, 1) := by decide +kernel
theorem dX3_syndromes_2 : decode cX3_syndromes 2 = .ok (.getfield 21, 3) := by decide +kernel
theorem dX3_syndromes_5 : decode cX3_syndromes 5 = .ok (.ishl, 1) := by decide +kernel
theorem dX3_syndromes_6 : decode cX3_syndromes 6 = .ok (.ireturn, 1) := by decide +kernel
theorem dX3_rank_0 : decode cX3_rank 0 = .ok (.aload_n 0, 1) := by decide +kernel
theorem dX3_rank_1 : decode cX3_rank 1 = .ok (.getfield 28, 3) := by decide +kernel
theorem dX3_rank_4 : decode cX3_rank 4 = .ok (.ireturn, 1) := by decide +kernel
theorem dX3_distanceOrNone_0 : decode cX3_distanceOrNone 0 = .ok (.aload_n 0, 1) := by decide +kernel
theorem dX3_distanceOrNone_1 : decode cX3_distanceOrNone 1 = .ok (.getfield 31, 3) := by decide +kernel
theorem dX3_distanceOrNone_4 : decode cX3_distanceOrNone 4 = .ok (.aload_n 0, 1) := by decide +kernel
theorem dX3_distanceOrNone_5 : decode cX3_distanceOrNone 5 = .ok (.getfield 25, 3) := by decide +kernel
theorem dX3_distanceOrNone_8 : decode cX3_distanceOrNone 8 = .ok (.if_icmp .le 9, 3) := by decide +kernel
theorem dX3_distanceOrNone_11 : decode cX3_distanceOrNone 11 = .ok (.sipush (-1001), 3) := by decide +kernel
theorem dX3_distanceOrNone_14 : decode cX3_distanceOrNone 14 = .ok (.goto 7, 3) := by decide +kernel
theorem dX3_distanceOrNone_17 : decode cX3_distanceOrNone 17 = .ok (.aload_n 0, 1) := by decide +kernel
theorem dX3_distanceOrNone_18 : decode cX3_distanceOrNone 18 = .ok (.getfield 31, 3) := by decide +kernel
theorem dX3_distanceOrNone_21 : decode cX3_distanceOrNone 21 = .ok (.ireturn, 1) := by decide +kernel
theorem dX3_sure_0 : decode cX3_sure 0 = .ok (.aload_n 0, 1) := by decide +kernel
theorem dX3_sure_1 : decode cX3_sure 1 = .ok (.getfield 34, 3) := by decide +kernel
theorem dX3_sure_4 : decode cX3_sure 4 = .ok (.ireturn, 1) := by decide +kernel
theorem dX3_radius_0 : decode cX3_radius 0 = .ok (.aload_n 0, 1) := by decide +kernel
theorem dX3_radius_1 : decode cX3_radius 1 = .ok (.getfield 37, 3) := by decide +kernel
theorem dX3_radius_4 : decode cX3_radius 4 = .ok (.ireturn, 1) := by decide +kernel
theorem dX3_isRow_0 : decode cX3_isRow 0 = .ok (.iload_n 1, 1) := by decide +kernel
theorem dX3_isRow_1 : decode cX3_isRow 1 = .ok (.ifCond .lt 24, 3) := by decide +kernel
theorem dX3_isRow_4 : decode cX3_isRow 4 = .ok (.iload_n 1, 1) := by decide +kernel
theorem dX3_isRow_5 : decode cX3_isRow 5 = .ok (.aload_n 0, 1) := by decide +kernel
theorem dX3_isRow_6 : decode cX3_isRow 6 = .ok (.getfield 21, 3) := by decide +kernel
theorem dX3_isRow_9 : decode cX3_isRow 9 = .ok (.if_icmp .ge 16, 3) := by decide +kernel
theorem dX3_isRow_12 : decode cX3_isRow 12 = .ok (.iload_n 1, 1) := by decide +kernel
theorem dX3_isRow_13 : decode cX3_isRow 13 = .ok (.aload_n 0, 1) := by decide +kernel
theorem dX3_isRow_14 : decode cX3_isRow 14 = .ok (.getfield 9, 3) := by decide +kernel
theorem dX3_isRow_17 : decode cX3_isRow 17 = .ok (.arraylength, 1) := by decide +kernel
theorem dX3_isRow_18 : decode cX3_isRow 18 = .ok (.if_icmp .ge 7, 3) := by decide +kernel
theorem dX3_isRow_21 : decode cX3_isRow 21 = .ok (.iconst 1, 1) := by decide +kernel
theorem dX3_isRow_22 : decode cX3_isRow 22 = .ok (.goto 4, 3) := by decide +kernel
theorem dX3_isRow_25 : decode cX3_isRow 25 = .ok (.iconst 0, 1) := by decide +kernel
theorem dX3_isRow_26 : decode cX3_isRow 26 = .ok (.ireturn, 1) := by decide +kernel
set_option maxRecDepth 20000 in
theorem ggX3_isWord_X3_words : GoodIn wsX3_isWord wsX3_words := goodIn_r _ [5, 6, 7, 8, 9, 10, 11, 12, 13, 14, 15] (by decide +kernel) (by decide +kernel)
set_option maxRecDepth 20000 in
theorem gX3_isWord_X3_words : GoodIn wsX3_isWord (wsV RX3 62 RX3 yX3_words wsX3_words) := goodIn_app (goodIn_of _ (by decide +kernel)) ggX3_isWord_X3_words
theorem dX3_isWord_0 : decode cX3_isWord 0 = .ok (.iload_n 1, 1) := by decide +kernel
theorem dX3_isWord_1 : decode cX3_isWord 1 = .ok (.ifCond .lt 15, 3) := by decide +kernel
theorem dX3_isWord_4 : decode cX3_isWord 4 = .ok (.iload_n 1, 1) := by decide +kernel
theorem dX3_isWord_5 : decode cX3_isWord 5 = .ok (.aload_n 0, 1) := by decide +kernel
theorem dX3_isWord_6 : decode cX3_isWord 6 = .ok (.invokevirtual 62, 3) := by decide +kernel
theorem dX3_isWord_9 : decode cX3_isWord 9 = .ok (.if_icmp .ge 7, 3) := by decide +kernel
theorem dX3_isWord_12 : decode cX3_isWord 12 = .ok (.iconst 1, 1) := by decide +kernel
theorem dX3_isWord_13 : decode cX3_isWord 13 = .ok (.goto 4, 3) := by decide +kernel
theorem dX3_isWord_16 : decode cX3_isWord 16 = .ok (.iconst 0, 1) := by decide +kernel
theorem dX3_isWord_17 : decode cX3_isWord 17 = .ok (.ireturn, 1) := by decide +kernel
set_option maxRecDepth 20000 in
theorem ggX3_isSyndrome_X3_syndromes : GoodIn wsX3_isSyndrome wsX3_syndromes := goodIn_r _ [6, 7, 8, 9, 10, 11, 12, 13, 14, 15, 16] (by decide +kernel) (by decide +kernel)
set_option maxRecDepth 20000 in
theorem gX3_isSyndrome_X3_syndromes : GoodIn wsX3_isSyndrome (wsV RX3 90 RX3 yX3_syndromes wsX3_syndromes) := goodIn_app (goodIn_of _ (by decide +kernel)) ggX3_isSyndrome_X3_syndromes
theorem dX3_isSyndrome_0 : decode cX3_isSyndrome 0 = .ok (.iload_n 1, 1) := by decide +kernel
theorem dX3_isSyndrome_1 : decode cX3_isSyndrome 1 = .ok (.ifCond .lt 24, 3) := by decide +kernel
theorem dX3_isSyndrome_4 : decode cX3_isSyndrome 4 = .ok (.iload_n 1, 1) := by decide +kernel
theorem dX3_isSyndrome_5 : decode cX3_isSyndrome 5 = .ok (.aload_n 0, 1) := by decide +kernel
theorem dX3_isSyndrome_6 : decode cX3_isSyndrome 6 = .ok (.invokevirtual 90, 3) := by decide +kernel
theorem dX3_isSyndrome_9 : decode cX3_isSyndrome 9 = .ok (.if_icmp .ge 16, 3) := by decide +kernel
theorem dX3_isSyndrome_12 : decode cX3_isSyndrome 12 = .ok (.iload_n 1, 1) := by decide +kernel
theorem dX3_isSyndrome_13 : decode cX3_isSyndrome 13 = .ok (.aload_n 0, 1) := by decide +kernel
theorem dX3_isSyndrome_14 : decode cX3_isSyndrome 14 = .ok (.getfield 15, 3) := by decide +kernel
theorem dX3_isSyndrome_17 : decode cX3_isSyndrome 17 = .ok (.arraylength, 1) := by decide +kernel
theorem dX3_isSyndrome_18 : decode cX3_isSyndrome 18 = .ok (.if_icmp .ge 7, 3) := by decide +kernel
theorem dX3_isSyndrome_21 : decode cX3_isSyndrome 21 = .ok (.iconst 1, 1) := by decide +kernel
theorem dX3_isSyndrome_22 : decode cX3_isSyndrome 22 = .ok (.goto 4, 3) := by decide +kernel
theorem dX3_isSyndrome_25 : decode cX3_isSyndrome 25 = .ok (.iconst 0, 1) := by decide +kernel
theorem dX3_isSyndrome_26 : decode cX3_isSyndrome 26 = .ok (.ireturn, 1) := by decide +kernel
theorem dX3_isWeight_0 : decode cX3_isWeight 0 = .ok (.iload_n 1, 1) := by decide +kernel
theorem dX3_isWeight_1 : decode cX3_isWeight 1 = .ok (.ifCond .lt 24, 3) := by decide +kernel
theorem dX3_isWeight_4 : decode cX3_isWeight 4 = .ok (.iload_n 1, 1) := by decide +kernel
theorem dX3_isWeight_5 : decode cX3_isWeight 5 = .ok (.aload_n 0, 1) := by decide +kernel
theorem dX3_isWeight_6 : decode cX3_isWeight 6 = .ok (.getfield 25, 3) := by decide +kernel
theorem dX3_isWeight_9 : decode cX3_isWeight 9 = .ok (.if_icmp .gt 16, 3) := by decide +kernel
theorem dX3_isWeight_12 : decode cX3_isWeight 12 = .ok (.iload_n 1, 1) := by decide +kernel
theorem dX3_isWeight_13 : decode cX3_isWeight 13 = .ok (.aload_n 0, 1) := by decide +kernel
theorem dX3_isWeight_14 : decode cX3_isWeight 14 = .ok (.getfield 18, 3) := by decide +kernel
theorem dX3_isWeight_17 : decode cX3_isWeight 17 = .ok (.arraylength, 1) := by decide +kernel
theorem dX3_isWeight_18 : decode cX3_isWeight 18 = .ok (.if_icmp .ge 7, 3) := by decide +kernel
theorem dX3_isWeight_21 : decode cX3_isWeight 21 = .ok (.iconst 1, 1) := by decide +kernel
theorem dX3_isWeight_22 : decode cX3_isWeight 22 = .ok (.goto 4, 3) := by decide +kernel
theorem dX3_isWeight_25 : decode cX3_isWeight 25 = .ok (.iconst 0, 1) := by decide +kernel
theorem dX3_isWeight_26 : decode cX3_isWeight 26 = .ok (.ireturn, 1) := by decide +kernel
set_option maxRecDepth 20000 in
theorem ggX3_areSharedSets_X3_isWord : GoodIn wsX3_areSharedSets wsX3_isWord := goodIn_r _ [5, 6, 7, 8, 4, 9, 10, 11, 12, 13, 14, 15, 16, 17, 18, 19] (by decide +kernel) (by decide +kernel)
set_option maxRecDepth 20000 in
theorem gX3_areSharedSets_X3_isWord : GoodIn wsX3_areSharedSets (wsV RX3 93 RX3 yX3_isWord wsX3_isWord) := goodIn_app (goodIn_of _ (by decide +kernel)) ggX3_areSharedSets_X3_isWord
theorem dX3_areSharedSets_0 : decode cX3_areSharedSets 0 = .ok (.aload_n 0, 1) := by decide +kernel
theorem dX3_areSharedSets_1 : decode cX3_areSharedSets 1 = .ok (.iload_n 1, 1) := by decide +kernel
theorem dX3_areSharedSets_2 : decode cX3_areSharedSets 2 = .ok (.invokevirtual 93, 3) := by decide +kernel
theorem dX3_areSharedSets_5 : decode cX3_areSharedSets 5 = .ok (.ifCond .eq 21, 3) := by decide +kernel
theorem dX3_areSharedSets_8 : decode cX3_areSharedSets 8 = .ok (.aload_n 0, 1) := by decide +kernel
theorem dX3_areSharedSets_9 : decode cX3_areSharedSets 9 = .ok (.iload_n 2, 1) := by decide +kernel
theorem dX3_areSharedSets_10 : decode cX3_areSharedSets 10 = .ok (.invokevirtual 93, 3) := by decide +kernel
theorem dX3_areSharedSets_13 : decode cX3_areSharedSets 13 = .ok (.ifCond .eq 13, 3) := by decide +kernel
theorem dX3_areSharedSets_16 : decode cX3_areSharedSets 16 = .ok (.iload_n 1, 1) := by decide +kernel
theorem dX3_areSharedSets_17 : decode cX3_areSharedSets 17 = .ok (.iload_n 2, 1) := by decide +kernel
theorem dX3_areSharedSets_18 : decode cX3_areSharedSets 18 = .ok (.iand, 1) := by decide +kernel
theorem dX3_areSharedSets_19 : decode cX3_areSharedSets 19 = .ok (.ifCond .ne 7, 3) := by decide +kernel
theorem dX3_areSharedSets_22 : decode cX3_areSharedSets 22 = .ok (.iconst 1, 1) := by decide +kernel
theorem dX3_areSharedSets_23 : decode cX3_areSharedSets 23 = .ok (.goto 4, 3) := by decide +kernel
theorem dX3_areSharedSets_26 : decode cX3_areSharedSets 26 = .ok (.iconst 0, 1) := by decide +kernel
theorem dX3_areSharedSets_27 : decode cX3_areSharedSets 27 = .ok (.ireturn, 1) := by decide +kernel
set_option maxRecDepth 20000 in
theorem ggX3_rowAt_X3_isRow : GoodIn wsX3_rowAt wsX3_isRow := goodIn_r _ [6, 7, 1, 8, 9, 10, 11, 12, 13, 14, 15, 16] (by decide +kernel) (by decide +kernel)
set_option maxRecDepth 20000 in
theorem gX3_rowAt_X3_isRow : GoodIn wsX3_rowAt (wsV RX3 96 RX3 yX3_isRow wsX3_isRow) := goodIn_app (goodIn_of _ (by decide +kernel)) ggX3_rowAt_X3_isRow
theorem dX3_rowAt_0 : decode cX3_rowAt 0 = .ok (.aload_n 0, 1) := by decide +kernel
theorem dX3_rowAt_1 : decode cX3_rowAt 1 = .ok (.iload_n 1, 1) := by decide +kernel
theorem dX3_rowAt_2 : decode cX3_rowAt 2 = .ok (.invokevirtual 96, 3) := by decide +kernel
theorem dX3_rowAt_5 : decode cX3_rowAt 5 = .ok (.ifCond .eq 12, 3) := by decide +kernel
theorem dX3_rowAt_8 : decode cX3_rowAt 8 = .ok (.aload_n 0, 1) := by decide +kernel
theorem dX3_rowAt_9 : decode cX3_rowAt 9 = .ok (.getfield 9, 3) := by decide +kernel
theorem dX3_rowAt_12 : decode cX3_rowAt 12 = .ok (.iload_n 1, 1) := by decide +kernel
theorem dX3_rowAt_13 : decode cX3_rowAt 13 = .ok (.iaload, 1) := by decide +kernel
theorem dX3_rowAt_14 : decode cX3_rowAt 14 = .ok (.goto 4, 3) := by decide +kernel
theorem dX3_rowAt_17 : decode cX3_rowAt 17 = .ok (.iconst 0, 1) := by decide +kernel
theorem dX3_rowAt_18 : decode cX3_rowAt 18 = .ok (.ireturn, 1) := by decide +kernel
set_option maxRecDepth 20000 in
theorem ggX3_leaderOf_X3_isSyndrome : GoodIn wsX3_leaderOf wsX3_isSyndrome := goodIn_r _ [6, 1, 7, 8, 9, 5, 10, 11, 12, 13, 14, 15, 16, 17, 18, 19, 20] (by decide +kernel) (by decide +kernel)
set_option maxRecDepth 20000 in
theorem gX3_leaderOf_X3_isSyndrome : GoodIn wsX3_leaderOf (wsV RX3 68 RX3 yX3_isSyndrome wsX3_isSyndrome) := goodIn_app (goodIn_of _ (by decide +kernel)) ggX3_leaderOf_X3_isSyndrome
theorem dX3_leaderOf_0 : decode cX3_leaderOf 0 = .ok (.aload_n 0, 1) := by decide +kernel
theorem dX3_leaderOf_1 : decode cX3_leaderOf 1 = .ok (.iload_n 1, 1) := by decide +kernel
theorem dX3_leaderOf_2 : decode cX3_leaderOf 2 = .ok (.invokevirtual 68, 3) := by decide +kernel
theorem dX3_leaderOf_5 : decode cX3_leaderOf 5 = .ok (.ifCond .eq 12, 3) := by decide +kernel
theorem dX3_leaderOf_8 : decode cX3_leaderOf 8 = .ok (.aload_n 0, 1) := by decide +kernel
theorem dX3_leaderOf_9 : decode cX3_leaderOf 9 = .ok (.getfield 15, 3) := by decide +kernel
theorem dX3_leaderOf_12 : decode cX3_leaderOf 12 = .ok (.iload_n 1, 1) := by decide +kernel
theorem dX3_leaderOf_13 : decode cX3_leaderOf 13 = .ok (.iaload, 1) := by decide +kernel
theorem dX3_leaderOf_14 : decode cX3_leaderOf 14 = .ok (.goto 6, 3) := by decide +kernel
theorem dX3_leaderOf_17 : decode cX3_leaderOf 17 = .ok (.sipush (-1001), 3) := by decide +kernel
theorem dX3_leaderOf_20 : decode cX3_leaderOf 20 = .ok (.ireturn, 1) := by decide +kernel
set_option maxRecDepth 20000 in
theorem ggX3_leadersOfWeight_X3_isWeight : GoodIn wsX3_leadersOfWeight wsX3_isWeight := goodIn_r _ [6, 7, 1, 8, 9, 10, 11, 12, 13, 14, 15, 16] (by decide +kernel) (by decide +kernel)
set_option maxRecDepth 20000 in
theorem gX3_leadersOfWeight_X3_isWeight : GoodIn wsX3_leadersOfWeight (wsV RX3 99 RX3 yX3_isWeight wsX3_isWeight) := goodIn_app (goodIn_of _ (by decide +kernel)) ggX3_leadersOfWeight_X3_isWeight
theorem dX3_leadersOfWeight_0 : decode cX3_leadersOfWeight 0 = .ok (.aload_n 0, 1) := by decide +kernel
theorem dX3_leadersOfWeight_1 : decode cX3_leadersOfWeight 1 = .ok (.iload_n 1, 1) := by decide +kernel
theorem dX3_leadersOfWeight_2 : decode cX3_leadersOfWeight 2 = .ok (.invokevirtual 99, 3) := by decide +kernel
theorem dX3_leadersOfWeight_5 : decode cX3_leadersOfWeight 5 = .ok (.ifCond .eq 12, 3) := by decide +kernel
theorem dX3_leadersOfWeight_8 : decode cX3_leadersOfWeight 8 = .ok (.aload_n 0, 1) := by decide +kernel
theorem dX3_leadersOfWeight_9 : decode cX3_leadersOfWeight 9 = .ok (.getfield 18, 3) := by decide +kernel
theorem dX3_leadersOfWeight_12 : decode cX3_leadersOfWeight 12 = .ok (.iload_n 1, 1) := by decide +kernel
theorem dX3_leadersOfWeight_13 : decode cX3_leadersOfWeight 13 = .ok (.iaload, 1) := by decide +kernel
theorem dX3_leadersOfWeight_14 : decode cX3_leadersOfWeight 14 = .ok (.goto 4, 3) := by decide +kernel
theorem dX3_leadersOfWeight_17 : decode cX3_leadersOfWeight 17 = .ok (.iconst 0, 1) := by decide +kernel
theorem dX3_leadersOfWeight_18 : decode cX3_leadersOfWeight 18 = .ok (.ireturn, 1) := by decide +kernel
set_option maxRecDepth 20000 in
theorem ggX3_syndromeOf_J6_bitCount_0f7a4 : GoodIn wsX3_syndromeOf wsJ6_bitCount_0f7a4 := goodIn_r _ [6, 7, 8, 9] (by decide +kernel) (by decide +kernel)
set_option maxRecDepth 20000 in
theorem gX3_syndromeOf_J6_bitCount_0f7a4 : GoodIn wsX3_syndromeOf (va_wsS RX3 79 yJ6_bitCount_0f7a4 wsJ6_bitCount_0f7a4) := goodIn_app (goodIn_of _ (by decide +kernel)) ggX3_syndromeOf_J6_bitCount_0f7a4
theorem dX3_syndromeOf_0 : decode cX3_syndromeOf 0 = .ok (.iconst 0, 1) := by decide +kernel
theorem dX3_syndromeOf_1 : decode cX3_syndromeOf 1 = .ok (.istore_n 2, 1) := by decide +kernel
theorem dX3_syndromeOf_2 : decode cX3_syndromeOf 2 = .ok (.iconst 0, 1) := by decide +kernel
theorem dX3_syndromeOf_3 : decode cX3_syndromeOf 3 = .ok (.istore_n 3, 1) := by decide +kernel
theorem dX3_syndromeOf_4 : decode cX3_syndromeOf 4 = .ok (.iload_n 3, 1) := by decide +kernel
theorem dX3_syndromeOf_5 : decode cX3_syndromeOf 5 = .ok (.aload_n 0, 1) := by decide +kernel
theorem dX3_syndromeOf_6 : decode cX3_syndromeOf 6 = .ok (.getfield 21, 3) := by decide +kernel
theorem dX3_syndromeOf_9 : decode cX3_syndromeOf 9 = .ok (.if_icmp .ge 36, 3) := by decide +kernel
theorem dX3_syndromeOf_12 : decode cX3_syndromeOf 12 = .ok (.iload_n 3, 1) := by decide +kernel
theorem dX3_syndromeOf_13 : decode cX3_syndromeOf 13 = .ok (.aload_n 0, 1) := by decide +kernel
theorem dX3_syndromeOf_14 : decode cX3_syndromeOf 14 = .ok (.getfield 9, 3) := by decide +kernel
theorem dX3_syndromeOf_17 : decode cX3_syndromeOf 17 = .ok (.arraylength, 1) := by decide +kernel
theorem dX3_syndromeOf_18 : decode cX3_syndromeOf 18 = .ok (.if_icmp .ge 27, 3) := by decide +kernel
theorem dX3_syndromeOf_21 : decode cX3_syndromeOf 21 = .ok (.iload_n 2, 1) := by decide +kernel
theorem dX3_syndromeOf_22 : decode cX3_syndromeOf 22 = .ok (.aload_n 0, 1) := by decide +kernel
theorem dX3_syndromeOf_23 : decode cX3_syndromeOf 23 = .ok (.getfield 9, 3) := by decide +kernel
theorem dX3_syndromeOf_26 : decode cX3_syndromeOf 26 = .ok (.iload_n 3, 1) := by decide +kernel
theorem dX3_syndromeOf_27 : decode cX3_syndromeOf 27 = .ok (.iaload, 1) := by decide +kernel
theorem dX3_syndromeOf_28 : decode cX3_syndromeOf 28 = .ok (.iload_n 1, 1) := by decide +kernel
theorem dX3_syndromeOf_29 : decode cX3_syndromeOf 29 = .ok (.iand, 1) := by decide +kernel
theorem dX3_syndromeOf_30 : decode cX3_syndromeOf 30 = .ok (.invokestatic 79, 3) := by decide +kernel
theorem dX3_syndromeOf_33 : decode cX3_syndromeOf 33 = .ok (.iconst 1, 1) := by decide +kernel
theorem dX3_syndromeOf_34 : decode cX3_syndromeOf 34 = .ok (.iand, 1) := by decide +kernel
theorem dX3_syndromeOf_35 : decode cX3_syndromeOf 35 = .ok (.iload_n 3, 1) := by decide +kernel
theorem dX3_syndromeOf_36 : decode cX3_syndromeOf 36 = .ok (.ishl, 1) := by decide +kernel
theorem dX3_syndromeOf_37 : decode cX3_syndromeOf 37 = .ok (.ior, 1) := by decide +kernel
theorem dX3_syndromeOf_38 : decode cX3_syndromeOf 38 = .ok (.istore_n 2, 1) := by decide +kernel
theorem dX3_syndromeOf_39 : decode cX3_syndromeOf 39 = .ok (.iinc 3 1, 3) := by decide +kernel
theorem dX3_syndromeOf_42 : decode cX3_syndromeOf 42 = .ok (.goto (-38), 3) := by decide +kernel
theorem dX3_syndromeOf_45 : decode cX3_syndromeOf 45 = .ok (.iload_n 2, 1) := by decide +kernel
theorem dX3_syndromeOf_46 : decode cX3_syndromeOf 46 = .ok (.ireturn, 1) := by decide +kernel
set_option maxRecDepth 20000 in
theorem ggX3_wordOfCoset_X3_words : GoodIn wsX3_wordOfCoset wsX3_words := goodIn_r _ [5, 6, 20, 21, 22, 23, 24, 25, 26, 27, 28] (by decide +kernel) (by decide +kernel)
set_option maxRecDepth 20000 in
theorem gX3_wordOfCoset_X3_words : GoodIn wsX3_wordOfCoset (wsV RX3 62 RX3 yX3_words wsX3_words) := goodIn_app (goodIn_of _ (by decide +kernel)) ggX3_wordOfCoset_X3_words
set_option maxRecDepth 20000 in
theorem ggX3_wordOfCoset_X3_syndromeOf : GoodIn wsX3_wordOfCoset wsX3_syndromeOf := goodIn_r _ [10, 11, 12, 13, 14, 15, 16, 17, 18, 19, 20, 21, 22, 23, 24, 25, 26, 27, 28] (by decide +kernel) (by decide +kernel)
set_option maxRecDepth 20000 in
theorem gX3_wordOfCoset_X3_syndromeOf : GoodIn wsX3_wordOfCoset (wsV RX3 65 RX3 yX3_syndromeOf wsX3_syndromeOf) := goodIn_app (goodIn_of _ (by decide +kernel)) ggX3_wordOfCoset_X3_syndromeOf
theorem dX3_wordOfCoset_0 : decode cX3_wordOfCoset 0 = .ok (.aload_n 0, 1) := by decide +kernel
theorem dX3_wordOfCoset_1 : decode cX3_wordOfCoset 1 = .ok (.invokevirtual 62, 3) := by decide +kernel
theorem dX3_wordOfCoset_4 : decode cX3_wordOfCoset 4 = .ok (.istore_n 3, 1) := by decide +kernel
theorem dX3_wordOfCoset_5 : decode cX3_wordOfCoset 5 = .ok (.iconst 0, 1) := by decide +kernel
theorem dX3_wordOfCoset_6 : decode cX3_wordOfCoset 6 = .ok (.istore 4, 2) := by decide +kernel
theorem dX3_wordOfCoset_8 : decode cX3_wordOfCoset 8 = .ok (.iconst 0, 1) := by decide +kernel
theorem dX3_wordOfCoset_9 : decode cX3_wordOfCoset 9 = .ok (.istore 5, 2) := by decide +kernel
theorem dX3_wordOfCoset_11 : decode cX3_wordOfCoset 11 = .ok (.iload 5, 2) := by decide +kernel
theorem dX3_wordOfCoset_13 : decode cX3_wordOfCoset 13 = .ok (.iload_n 3, 1) := by decide +kernel
theorem dX3_wordOfCoset_14 : decode cX3_wordOfCoset 14 = .ok (.if_icmp .ge 31, 3) := by decide +kernel
theorem dX3_wordOfCoset_17 : decode cX3_wordOfCoset 17 = .ok (.aload_n 0, 1) := by decide +kernel
theorem dX3_wordOfCoset_18 : decode cX3_wordOfCoset 18 = .ok (.iload 5, 2) := by decide +kernel
theorem dX3_wordOfCoset_20 : decode cX3_wordOfCoset 20 = .ok (.invokevirtual 65, 3) := by decide +kernel
theorem dX3_wordOfCoset_23 : decode cX3_wordOfCoset 23 = .ok (.iload_n 1, 1) := by decide +kernel
theorem dX3_wordOfCoset_24 : decode cX3_wordOfCoset 24 = .ok (.if_icmp .ne 15, 3) := by decide +kernel
theorem dX3_wordOfCoset_27 : decode cX3_wordOfCoset 27 = .ok (.iload 4, 2) := by decide +kernel
theorem dX3_wordOfCoset_29 : decode cX3_wordOfCoset 29 = .ok (.iload_n 2, 1) := by decide +kernel
theorem dX3_wordOfCoset_30 : decode cX3_wordOfCoset 30 = .ok (.if_icmp .ne 6, 3) := by decide +kernel
theorem dX3_wordOfCoset_33 : decode cX3_wordOfCoset 33 = .ok (.iload 5, 2) := by decide +kernel
theorem dX3_wordOfCoset_35 : decode cX3_wordOfCoset 35 = .ok (.ireturn, 1) := by decide +kernel
theorem dX3_wordOfCoset_36 : decode cX3_wordOfCoset 36 = .ok (.iinc 4 1, 3) := by decide +kernel
theorem dX3_wordOfCoset_39 : decode cX3_wordOfCoset 39 = .ok (.iinc 5 1, 3) := by decide +kernel
theorem dX3_wordOfCoset_42 : decode cX3_wordOfCoset 42 = .ok (.goto (-31), 3) := by decide +kernel
theorem dX3_wordOfCoset_45 : decode cX3_wordOfCoset 45 = .ok (.sipush (-1001), 3) := by decide +kernel
theorem dX3_wordOfCoset_48 : decode cX3_wordOfCoset 48 = .ok (.ireturn, 1) := by decide +kernel
set_option maxRecDepth 20000 in
theorem ggX3_gainBy_X3_isRow : GoodIn wsX3_gainBy wsX3_isRow := goodIn_r _ [7, 8, 1, 29, 30, 31, 32, 33, 34, 35, 36, 37] (by decide +kernel) (by decide +kernel)
set_option maxRecDepth 20000 in
theorem gX3_gainBy_X3_isRow : GoodIn wsX3_gainBy (wsV RX3 96 RX3 yX3_isRow wsX3_isRow) := goodIn_app (goodIn_of _ (by decide +kernel)) ggX3_gainBy_X3_isRow
set_option maxRecDepth 20000 in
theorem ggX3_gainBy_X3_leastWeightWithoutSyndrome : GoodIn wsX3_gainBy wsX3_leastWeightWithoutSyndrome := goodIn_r _ [12, 13, 14, 15, 16, 6, 17, 18, 19, 20, 21, 22, 23, 24, 25, 26, 27, 28, 8, 1, 29, 30, 31, 32, 33, 34, 35, 36, 37] (by decide +kernel) (by decide +kernel)
set_option maxRecDepth 20000 in
theorem gX3_gainBy_X3_leastWeightWithoutSyndrome : GoodIn wsX3_gainBy (wsV RX3 59 RX3 yX3_leastWeightWithoutSyndrome wsX3_leastWeightWithoutSyndrome) := goodIn_app (goodIn_of _ (by decide +kernel)) ggX3_gainBy_X3_leastWeightWithoutSyndrome
theorem dX3_gainBy_0 : decode cX3_gainBy 0 = .ok (.aload_n 0, 1) := by decide +kernel
theorem dX3_gainBy_1 : decode cX3_gainBy 1 = .ok (.iload_n 1, 1) := by decide +kernel
theorem dX3_gainBy_2 : decode cX3_gainBy 2 = .ok (.invokevirtual 96, 3) := by decide +kernel
theorem dX3_gainBy_5 : decode cX3_gainBy 5 = .ok (.ifCond .ne 5, 3) := by decide +kernel
theorem dX3_gainBy_8 : decode cX3_gainBy 8 = .ok (.iconst 0, 1) := by decide +kernel
theorem dX3_gainBy_9 : decode cX3_gainBy 9 = .ok (.ireturn, 1) := by decide +kernel
theorem dX3_gainBy_10 : decode cX3_gainBy 10 = .ok (.aload_n 0, 1) := by decide +kernel
theorem dX3_gainBy_11 : decode cX3_gainBy 11 = .ok (.getfield 9, 3) := by decide +kernel
theorem dX3_gainBy_14 : decode cX3_gainBy 14 = .ok (.iload_n 1, 1) := by decide +kernel
theorem dX3_gainBy_15 : decode cX3_gainBy 15 = .ok (.iaload, 1) := by decide +kernel
theorem dX3_gainBy_16 : decode cX3_gainBy 16 = .ok (.istore_n 3, 1) := by decide +kernel
theorem dX3_gainBy_17 : decode cX3_gainBy 17 = .ok (.aload_n 0, 1) := by decide +kernel
theorem dX3_gainBy_18 : decode cX3_gainBy 18 = .ok (.getfield 9, 3) := by decide +kernel
theorem dX3_gainBy_21 : decode cX3_gainBy 21 = .ok (.iload_n 1, 1) := by decide +kernel
theorem dX3_gainBy_22 : decode cX3_gainBy 22 = .ok (.iload_n 2, 1) := by decide +kernel
theorem dX3_gainBy_23 : decode cX3_gainBy 23 = .ok (.iastore, 1) := by decide +kernel
theorem dX3_gainBy_24 : decode cX3_gainBy 24 = .ok (.aload_n 0, 1) := by decide +kernel
theorem dX3_gainBy_25 : decode cX3_gainBy 25 = .ok (.invokevirtual 59, 3) := by decide +kernel
theorem dX3_gainBy_28 : decode cX3_gainBy 28 = .ok (.istore 4, 2) := by decide +kernel
theorem dX3_gainBy_30 : decode cX3_gainBy 30 = .ok (.aload_n 0, 1) := by decide +kernel
theorem dX3_gainBy_31 : decode cX3_gainBy 31 = .ok (.getfield 9, 3) := by decide +kernel
theorem dX3_gainBy_34 : decode cX3_gainBy 34 = .ok (.iload_n 1, 1) := by decide +kernel
theorem dX3_gainBy_35 : decode cX3_gainBy 35 = .ok (.iload_n 3, 1) := by decide +kernel
theorem dX3_gainBy_36 : decode cX3_gainBy 36 = .ok (.iastore, 1) := by decide +kernel
theorem dX3_gainBy_37 : decode cX3_gainBy 37 = .ok (.iload 4, 2) := by decide +kernel
theorem dX3_gainBy_39 : decode cX3_gainBy 39 = .ok (.aload_n 0, 1) := by decide +kernel
theorem dX3_gainBy_40 : decode cX3_gainBy 40 = .ok (.getfield 31, 3) := by decide +kernel
theorem dX3_gainBy_43 : decode cX3_gainBy 43 = .ok (.isub, 1) := by decide +kernel
theorem dX3_gainBy_44 : decode cX3_gainBy 44 = .ok (.ireturn, 1) := by decide +kernel
set_option maxRecDepth 20000 in
theorem ggX3_flipsOf_X3_syndromeOf : GoodIn wsX3_flipsOf wsX3_syndromeOf := goodIn_r _ [5, 6, 7, 8, 9, 10, 11, 12, 13, 14, 28, 29, 30, 31, 32, 33, 34, 35, 36] (by decide +kernel) (by decide +kernel)
set_option maxRecDepth 20000 in
theorem gX3_flipsOf_X3_syndromeOf : GoodIn wsX3_flipsOf (wsV RX3 65 RX3 yX3_syndromeOf wsX3_syndromeOf) := goodIn_app (goodIn_of _ (by decide +kernel)) ggX3_flipsOf_X3_syndromeOf
set_option maxRecDepth 20000 in
theorem ggX3_flipsOf_X3_leaderOf : GoodIn wsX3_flipsOf wsX3_leaderOf := goodIn_r _ [18, 19, 20, 21, 22, 4, 23, 24, 25, 26, 27, 6, 28, 29, 30, 31, 32, 33, 34, 35, 36] (by decide +kernel) (by decide +kernel)
set_option maxRecDepth 20000 in
theorem gX3_flipsOf_X3_leaderOf : GoodIn wsX3_flipsOf (wsV RX3 72 RX3 yX3_leaderOf wsX3_leaderOf) := goodIn_app (goodIn_of _ (by decide +kernel)) ggX3_flipsOf_X3_leaderOf
theorem dX3_flipsOf_0 : decode cX3_flipsOf 0 = .ok (.aload_n 0, 1) := by decide +kernel
theorem dX3_flipsOf_1 : decode cX3_flipsOf 1 = .ok (.aload_n 0, 1) := by decide +kernel
theorem dX3_flipsOf_2 : decode cX3_flipsOf 2 = .ok (.iload_n 1, 1) := by decide +kernel
theorem dX3_flipsOf_3 : decode cX3_flipsOf 3 = .ok (.iload_n 2, 1) := by decide +kernel
theorem dX3_flipsOf_4 : decode cX3_flipsOf 4 = .ok (.ixor, 1) := by decide +kernel
theorem dX3_flipsOf_5 : decode cX3_flipsOf 5 = .ok (.invokevirtual 65, 3) := by decide +kernel
theorem dX3_flipsOf_8 : decode cX3_flipsOf 8 = .ok (.invokevirtual 72, 3) := by decide +kernel
theorem dX3_flipsOf_11 : decode cX3_flipsOf 11 = .ok (.ireturn, 1) := by decide +kernel
set_option maxRecDepth 20000 in
theorem ggX3_verdictOf_X3_flipsOf : GoodIn wsX3_verdictOf wsX3_flipsOf := goodIn_r _ [6, 7, 8, 9, 5, 10, 11, 12, 13, 14, 15, 16, 17, 18, 19, 20, 21, 22, 23, 24, 25, 26, 27, 28, 29, 30, 31, 32, 33, 34, 35, 36, 37, 38, 39, 40, 41] (by decide +kernel) (by decide +kernel)
set_option maxRecDepth 20000 in
theorem gX3_verdictOf_X3_flipsOf : GoodIn wsX3_verdictOf (wsV RX3 102 RX3 yX3_flipsOf wsX3_flipsOf) := goodIn_app (goodIn_of _ (by decide +kernel)) ggX3_verdictOf_X3_flipsOf
set_option maxRecDepth 20000 in
theorem ggX3_verdictOf_J6_bitCount_0f7a4 : GoodIn wsX3_verdictOf wsJ6_bitCount_0f7a4 := goodIn_r _ [16, 17, 18, 19] (by decide +kernel) (by decide +kernel)
set_option maxRecDepth 20000 in
theorem gX3_verdictOf_J6_bitCount_0f7a4 : GoodIn wsX3_verdictOf (va_wsS RX3 79 yJ6_bitCount_0f7a4 wsJ6_bitCount_0f7a4) := goodIn_app (goodIn_of _ (by decide +kernel)) ggX3_verdictOf_J6_bitCount_0f7a4
theorem dX3_verdictOf_0 : decode cX3_verdictOf 0 = .ok (.aload_n 0, 1) := by decide +kernel
theorem dX3_verdictOf_1 : decode cX3_verdictOf 1 = .ok (.iload_n 1, 1) := by decide +kernel
theorem dX3_verdictOf_2 : decode cX3_verdictOf 2 = .ok (.iload_n 2, 1) := by decide +kernel
theorem dX3_verdictOf_3 : decode cX3_verdictOf 3 = .ok (.invokevirtual 102, 3) := by decide +kernel
theorem dX3_verdictOf_6 : decode cX3_verdictOf 6 = .ok (.istore_n 3, 1) := by decide +kernel
theorem dX3_verdictOf_7 : decode cX3_verdictOf 7 = .ok (.iload_n 3, 1) := by decide +kernel
theorem dX3_verdictOf_8 : decode cX3_verdictOf 8 = .ok (.invokestatic 79, 3) := by decide +kernel
theorem dX3_verdictOf_11 : decode cX3_verdictOf 11 = .ok (.aload_n 0, 1) := by decide +kernel
theorem dX3_verdictOf_12 : decode cX3_verdictOf 12 = .ok (.getfield 34, 3) := by decide +kernel
theorem dX3_verdictOf_15 : decode cX3_verdictOf 15 = .ok (.if_icmp .gt 7, 3) := by decide +kernel
theorem dX3_verdictOf_18 : decode cX3_verdictOf 18 = .ok (.iconst 1, 1) := by decide +kernel
theorem dX3_verdictOf_19 : decode cX3_verdictOf 19 = .ok (.goto 4, 3) := by decide +kernel
theorem dX3_verdictOf_22 : decode cX3_verdictOf 22 = .ok (.iconst 0, 1) := by decide +kernel
theorem dX3_verdictOf_23 : decode cX3_verdictOf 23 = .ok (.istore 4, 2) := by decide +kernel
theorem dX3_verdictOf_25 : decode cX3_verdictOf 25 = .ok (.iload_n 1, 1) := by decide +kernel
theorem dX3_verdictOf_26 : decode cX3_verdictOf 26 = .ok (.iload_n 3, 1) := by decide +kernel
theorem dX3_verdictOf_27 : decode cX3_verdictOf 27 = .ok (.ixor, 1) := by decide +kernel
theorem dX3_verdictOf_28 : decode cX3_verdictOf 28 = .ok (.iload_n 2, 1) := by decide +kernel
theorem dX3_verdictOf_29 : decode cX3_verdictOf 29 = .ok (.if_icmp .ne 14, 3) := by decide +kernel
theorem dX3_verdictOf_32 : decode cX3_verdictOf 32 = .ok (.iload 4, 2) := by decide +kernel
theorem dX3_verdictOf_34 : decode cX3_verdictOf 34 = .ok (.ifCond .eq 7, 3) := by decide +kernel
theorem dX3_verdictOf_37 : decode cX3_verdictOf 37 = .ok (.iconst 0, 1) := by decide +kernel
theorem dX3_verdictOf_38 : decode cX3_verdictOf 38 = .ok (.goto 4, 3) := by decide +kernel
theorem dX3_verdictOf_41 : decode cX3_verdictOf 41 = .ok (.iconst 1, 1) := by decide +kernel
theorem dX3_verdictOf_42 : decode cX3_verdictOf 42 = .ok (.ireturn, 1) := by decide +kernel
theorem dX3_verdictOf_43 : decode cX3_verdictOf 43 = .ok (.iload 4, 2) := by decide +kernel
theorem dX3_verdictOf_45 : decode cX3_verdictOf 45 = .ok (.ifCond .eq 7, 3) := by decide +kernel
theorem dX3_verdictOf_48 : decode cX3_verdictOf 48 = .ok (.iconst 3, 1) := by decide +kernel
theorem dX3_verdictOf_49 : decode cX3_verdictOf 49 = .ok (.goto 4, 3) := by decide +kernel
theorem dX3_verdictOf_52 : decode cX3_verdictOf 52 = .ok (.iconst 2, 1) := by decide +kernel
theorem dX3_verdictOf_53 : decode cX3_verdictOf 53 = .ok (.ireturn, 1) := by decide +kernel
set_option maxRecDepth 20000 in
theorem ggX3_isEnough_X3_words : GoodIn wsX3_isEnough wsX3_words := goodIn_r _ [5, 6, 20, 21, 22, 23, 24, 25, 26, 27, 28] (by decide +kernel) (by decide +kernel)
set_option maxRecDepth 20000 in
theorem gX3_isEnough_X3_words : GoodIn wsX3_isEnough (wsV RX3 62 RX3 yX3_words wsX3_words) := goodIn_app (goodIn_of _ (by decide +kernel)) ggX3_isEnough_X3_words
set_option maxRecDepth 20000 in
theorem ggX3_isEnough_X3_syndromeOf : GoodIn wsX3_isEnough wsX3_syndromeOf := goodIn_r _ [10, 11, 12, 13, 14, 15, 16, 17, 18, 19, 20, 21, 22, 23, 24, 25, 26, 27, 28] (by decide +kernel) (by decide +kernel)
set_option maxRecDepth 20000 in
theorem gX3_isEnough_X3_syndromeOf : GoodIn wsX3_isEnough (wsV RX3 65 RX3 yX3_syndromeOf wsX3_syndromeOf) := goodIn_app (goodIn_of _ (by decide +kernel)) ggX3_isEnough_X3_syndromeOf
theorem dX3_isEnough_0 : decode cX3_isEnough 0 = .ok (.aload_n 0, 1) := by decide +kernel
theorem dX3_isEnough_1 : decode cX3_isEnough 1 = .ok (.invokevirtual 62, 3) := by decide +kernel
theorem dX3_isEnough_4 : decode cX3_isEnough 4 = .ok (.istore_n 2, 1) := by decide +kernel
theorem dX3_isEnough_5 : decode cX3_isEnough 5 = .ok (.iconst 1, 1) := by decide +kernel
theorem dX3_isEnough_6 : decode cX3_isEnough 6 = .ok (.istore_n 3, 1) := by decide +kernel
theorem dX3_isEnough_7 : decode cX3_isEnough 7 = .ok (.iload_n 3, 1) := by decide +kernel
theorem dX3_isEnough_8 : decode cX3_isEnough 8 = .ok (.iload_n 2, 1) := by decide +kernel
theorem dX3_isEnough_9 : decode cX3_isEnough 9 = .ok (.if_icmp .ge 25, 3) := by decide +kernel
theorem dX3_isEnough_12 : decode cX3_isEnough 12 = .ok (.iload_n 3, 1) := by decide +kernel
theorem dX3_isEnough_13 : decode cX3_isEnough 13 = .ok (.iload_n 1, 1) := by decide +kernel
theorem dX3_isEnough_14 : decode cX3_isEnough 14 = .ok (.iand, 1) := by decide +kernel
theorem dX3_isEnough_15 : decode cX3_isEnough 15 = .ok (.ifCond .ne 13, 3) := by decide +kernel
theorem dX3_isEnough_18 : decode cX3_isEnough 18 = .ok (.aload_n 0, 1) := by decide +kernel
theorem dX3_isEnough_19 : decode cX3_isEnough 19 = .ok (.iload_n 3, 1) := by decide +kernel
theorem dX3_isEnough_20 : decode cX3_isEnough 20 = .ok (.invokevirtual 65, 3) := by decide +kernel
theorem dX3_isEnough_23 : decode cX3_isEnough 23 = .ok (.ifCond .ne 5, 3) := by decide +kernel
theorem dX3_isEnough_26 : decode cX3_isEnough 26 = .ok (.iconst 0, 1) := by decide +kernel
theorem dX3_isEnough_27 : decode cX3_isEnough 27 = .ok (.ireturn, 1) := by decide +kernel
theorem dX3_isEnough_28 : decode cX3_isEnough 28 = .ok (.iinc 3 1, 3) := by decide +kernel
theorem dX3_isEnough_31 : decode cX3_isEnough 31 = .ok (.goto (-24), 3) := by decide +kernel
theorem dX3_isEnough_34 : decode cX3_isEnough 34 = .ok (.iconst 1, 1) := by decide +kernel
theorem dX3_isEnough_35 : decode cX3_isEnough 35 = .ok (.ireturn, 1) := by decide +kernel
set_option maxRecDepth 20000 in
theorem ggX3_firstOfShared_X3_isEnough : GoodIn wsX3_firstOfShared wsX3_isEnough := goodIn_r _ [5, 6, 7, 8, 4, 9, 10, 11, 12, 13, 14, 15, 16, 17, 18, 19, 20, 21, 22, 23, 41, 42, 43, 44, 45, 46, 47, 48, 49] (by decide +kernel) (by decide +kernel)
set_option maxRecDepth 20000 in
theorem gX3_firstOfShared_X3_isEnough : GoodIn wsX3_firstOfShared (wsV RX3 105 RX3 yX3_isEnough wsX3_isEnough) := goodIn_app (goodIn_of _ (by decide +kernel)) ggX3_firstOfShared_X3_isEnough
set_option maxRecDepth 20000 in
theorem ggX3_firstOfShared_X3_flipsOf : GoodIn wsX3_firstOfShared wsX3_flipsOf := goodIn_r _ [27, 11, 12, 13, 4, 14, 15, 16, 17, 18, 19, 20, 21, 22, 23, 28, 29, 30, 31, 32, 33, 34, 35, 36, 37, 38, 39, 40, 41, 42, 43, 44, 45, 46, 47, 48, 49] (by decide +kernel) (by decide +kernel)
set_option maxRecDepth 20000 in
theorem gX3_firstOfShared_X3_flipsOf : GoodIn wsX3_firstOfShared (wsV RX3 102 RX3 yX3_flipsOf wsX3_flipsOf) := goodIn_app (goodIn_of _ (by decide +kernel)) ggX3_firstOfShared_X3_flipsOf
set_option maxRecDepth 20000 in
theorem ggX3_firstOfShared_X3_syndromeOf : GoodIn wsX3_firstOfShared wsX3_syndromeOf := goodIn_r _ [14, 15, 16, 17, 18, 19, 20, 21, 22, 23, 41, 42, 43, 44, 45, 46, 47, 48, 49] (by decide +kernel) (by decide +kernel)
set_option maxRecDepth 20000 in
theorem gX3_firstOfShared_X3_syndromeOf : GoodIn wsX3_firstOfShared (wsV RX3 65 RX3 yX3_syndromeOf wsX3_syndromeOf) := goodIn_app (goodIn_of _ (by decide +kernel)) ggX3_firstOfShared_X3_syndromeOf
set_option maxRecDepth 20000 in
theorem ggX3_firstOfShared_X3_words : GoodIn wsX3_firstOfShared wsX3_words := goodIn_r _ [9, 10, 41, 42, 43, 44, 45, 46, 47, 48, 49] (by decide +kernel) (by decide +kernel)
set_option maxRecDepth 20000 in
theorem gX3_firstOfShared_X3_words : GoodIn wsX3_firstOfShared (wsV RX3 62 RX3 yX3_words wsX3_words) := goodIn_app (goodIn_of _ (by decide +kernel)) ggX3_firstOfShared_X3_words
theorem dX3_firstOfShared_0 : decode cX3_firstOfShared 0 = .ok (.iload_n 1, 1) := by decide +kernel
theorem dX3_firstOfShared_1 : decode cX3_firstOfShared 1 = .ok (.iload_n 2, 1) := by decide +kernel
theorem dX3_firstOfShared_2 : decode cX3_firstOfShared 2 = .ok (.ior, 1) := by decide +kernel
theorem dX3_firstOfShared_3 : decode cX3_firstOfShared 3 = .ok (.istore 5, 2) := by decide +kernel
theorem dX3_firstOfShared_5 : decode cX3_firstOfShared 5 = .ok (.aload_n 0, 1) := by decide +kernel
theorem dX3_firstOfShared_6 : decode cX3_firstOfShared 6 = .ok (.iload 5, 2) := by decide +kernel
theorem dX3_firstOfShared_8 : decode cX3_firstOfShared 8 = .ok (.invokevirtual 105, 3) := by decide +kernel
theorem dX3_firstOfShared_11 : decode cX3_firstOfShared 11 = .ok (.ifCond .ne 7, 3) := by decide +kernel
theorem dX3_firstOfShared_14 : decode cX3_firstOfShared 14 = .ok (.sipush (-1001), 3) := by decide +kernel
theorem dX3_firstOfShared_17 : decode cX3_firstOfShared 17 = .ok (.ireturn, 1) := by decide +kernel
theorem dX3_firstOfShared_18 : decode cX3_firstOfShared 18 = .ok (.iload_n 3, 1) := by decide +kernel
theorem dX3_firstOfShared_19 : decode cX3_firstOfShared 19 = .ok (.iload_n 1, 1) := by decide +kernel
theorem dX3_firstOfShared_20 : decode cX3_firstOfShared 20 = .ok (.iand, 1) := by decide +kernel
theorem dX3_firstOfShared_21 : decode cX3_firstOfShared 21 = .ok (.iload 4, 2) := by decide +kernel
theorem dX3_firstOfShared_23 : decode cX3_firstOfShared 23 = .ok (.aload_n 0, 1) := by decide +kernel
theorem dX3_firstOfShared_24 : decode cX3_firstOfShared 24 = .ok (.iload_n 3, 1) := by decide +kernel
theorem dX3_firstOfShared_25 : decode cX3_firstOfShared 25 = .ok (.iload 4, 2) := by decide +kernel
theorem dX3_firstOfShared_27 : decode cX3_firstOfShared 27 = .ok (.invokevirtual 102, 3) := by decide +kernel
theorem dX3_firstOfShared_30 : decode cX3_firstOfShared 30 = .ok (.ixor, 1) := by decide +kernel
theorem dX3_firstOfShared_31 : decode cX3_firstOfShared 31 = .ok (.iload_n 2, 1) := by decide +kernel
theorem dX3_firstOfShared_32 : decode cX3_firstOfShared 32 = .ok (.iand, 1) := by decide +kernel
theorem dX3_firstOfShared_33 : decode cX3_firstOfShared 33 = .ok (.ior, 1) := by decide +kernel
theorem dX3_firstOfShared_34 : decode cX3_firstOfShared 34 = .ok (.istore 6, 2) := by decide +kernel
theorem dX3_firstOfShared_36 : decode cX3_firstOfShared 36 = .ok (.aload_n 0, 1) := by decide +kernel
theorem dX3_firstOfShared_37 : decode cX3_firstOfShared 37 = .ok (.iload_n 3, 1) := by decide +kernel
theorem dX3_firstOfShared_38 : decode cX3_firstOfShared 38 = .ok (.invokevirtual 65, 3) := by decide +kernel
theorem dX3_firstOfShared_41 : decode cX3_firstOfShared 41 = .ok (.istore 7, 2) := by decide +kernel
theorem dX3_firstOfShared_43 : decode cX3_firstOfShared 43 = .ok (.aload_n 0, 1) := by decide +kernel
theorem dX3_firstOfShared_44 : decode cX3_firstOfShared 44 = .ok (.invokevirtual 62, 3) := by decide +kernel
theorem dX3_firstOfShared_47 : decode cX3_firstOfShared 47 = .ok (.istore 8, 2) := by decide +kernel
theorem dX3_firstOfShared_49 : decode cX3_firstOfShared 49 = .ok (.iconst 0, 1) := by decide +kernel
theorem dX3_firstOfShared_50 : decode cX3_firstOfShared 50 = .ok (.istore 9, 2) := by decide +kernel
theorem dX3_firstOfShared_52 : decode cX3_firstOfShared 52 = .ok (.iload 9, 2) := by decide +kernel
theorem dX3_firstOfShared_54 : decode cX3_firstOfShared 54 = .ok (.iload 8, 2) := by decide +kernel
theorem dX3_firstOfShared_56 : decode cX3_firstOfShared 56 = .ok (.if_icmp .ge 33, 3) := by decide +kernel
theorem dX3_firstOfShared_59 : decode cX3_firstOfShared 59 = .ok (.iload 9, 2) := by decide +kernel
theorem dX3_firstOfShared_61 : decode cX3_firstOfShared 61 = .ok (.iload 5, 2) := by decide +kernel
theorem dX3_firstOfShared_63 : decode cX3_firstOfShared 63 = .ok (.iand, 1) := by decide +kernel
theorem dX3_firstOfShared_64 : decode cX3_firstOfShared 64 = .ok (.iload 6, 2) := by decide +kernel
theorem dX3_firstOfShared_66 : decode cX3_firstOfShared 66 = .ok (.if_icmp .ne 17, 3) := by decide +kernel
theorem dX3_firstOfShared_69 : decode cX3_firstOfShared 69 = .ok (.aload_n 0, 1) := by decide +kernel
theorem dX3_firstOfShared_70 : decode cX3_firstOfShared 70 = .ok (.iload 9, 2) := by decide +kernel
theorem dX3_firstOfShared_72 : decode cX3_firstOfShared 72 = .ok (.invokevirtual 65, 3) := by decide +kernel
theorem dX3_firstOfShared_75 : decode cX3_firstOfShared 75 = .ok (.iload 7, 2) := by decide +kernel
theorem dX3_firstOfShared_77 : decode cX3_firstOfShared 77 = .ok (.if_icmp .ne 6, 3) := by decide +kernel
theorem dX3_firstOfShared_80 : decode cX3_firstOfShared 80 = .ok (.iload 9, 2) := by decide +kernel
theorem dX3_firstOfShared_82 : decode cX3_firstOfShared 82 = .ok (.ireturn, 1) := by decide +kernel
theorem dX3_firstOfShared_83 : decode cX3_firstOfShared 83 = .ok (.iinc 9 1, 3) := by decide +kernel
theorem dX3_firstOfShared_86 : decode cX3_firstOfShared 86 = .ok (.goto (-34), 3) := by decide +kernel
theorem dX3_firstOfShared_89 : decode cX3_firstOfShared 89 = .ok (.sipush (-1001), 3) := by decide +kernel
theorem dX3_firstOfShared_92 : decode cX3_firstOfShared 92 = .ok (.ireturn, 1) := by decide +kernel
theorem dX4_init_0 : decode cX4_init 0 = .ok (.aload_n 0, 1) := by decide +kernel
theorem dX4_init_1 : decode cX4_init 1 = .ok (.invokespecial 3, 3) := by decide +kernel
theorem dX4_init_4 : decode cX4_init 4 = .ok (.aload_n 0, 1) := by decide +kernel
theorem dX4_init_5 : decode cX4_init 5 = .ok (.iconst 4, 1) := by decide +kernel
theorem dX4_init_6 : decode cX4_init 6 = .ok (.newarray .int, 2) := by decide +kernel
theorem dX4_init_8 : decode cX4_init 8 = .ok (.putfield 9, 3) := by decide +kernel
theorem dX4_init_11 : decode cX4_init 11 = .ok (.aload_n 0, 1) := by decide +kernel
theorem dX4_init_12 : decode cX4_init 12 = .ok (.iconst 0, 1) := by decide +kernel
theorem dX4_init_13 : decode cX4_init 13 = .ok (.putfield 15, 3) := by decide +kernel
theorem dX4_init_16 : decode cX4_init 16 = .ok (.aload_n 0, 1) := by decide +kernel
theorem dX4_init_17 : decode cX4_init 17 = .ok (.iconst 0, 1) := by decide +kernel
theorem dX4_init_18 : decode cX4_init 18 = .ok (.putfield 19, 3) := by decide +kernel
theorem dX4_init_21 : decode cX4_init 21 = .ok (.aload_n 0, 1) := by decide +kernel
theorem dX4_init_22 : decode cX4_init 22 = .ok (.iconst 0, 1) := by decide +kernel
theorem dX4_init_23 : decode cX4_init 23 = .ok (.putfield 22, 3) := by decide +kernel
theorem dX4_init_26 : decode cX4_init 26 = .ok (.return_, 1) := by decide +kernel
theorem dX4_sumsRead_0 : decode cX4_sumsRead 0 = .ok (.aload_n 0, 1) := by decide +kernel
theorem dX4_sumsRead_1 : decode cX4_sumsRead 1 = .ok (.dup, 1) := by decide +kernel
theorem dX4_sumsRead_2 : decode cX4_sumsRead 2 = .ok (.getfield 22, 3) := by decide +kernel
theorem dX4_sumsRead_5 : decode cX4_sumsRead 5 = .ok (.iconst 1, 1) := by decide +kernel
theorem dX4_sumsRead_6 : decode cX4_sumsRead 6 = .ok (.iadd, 1) := by decide +kernel
theorem dX4_sumsRead_7 : decode cX4_sumsRead 7 = .ok (.putfield 22, 3) := by decide +kernel
theorem dX4_sumsRead_10 : decode cX4_sumsRead 10 = .ok (.return_, 1) := by decide +kernel
theorem dX4_sentPlain_0 : decode cX4_sentPlain 0 = .ok (.iload_n 1, 1) := by decide +kernel
theorem dX4_sentPlain_1 : decode cX4_sentPlain 1 = .ok (.ifCond .lt 22, 3) := by decide +kernel
theorem dX4_sentPlain_4 : decode cX4_sentPlain 4 = .ok (.iload_n 1, 1) := by decide +kernel
theorem dX4_sentPlain_5 : decode cX4_sentPlain 5 = .ok (.aload_n 0, 1) := by decide +kernel
theorem dX4_sentPlain_6 : decode cX4_sentPlain 6 = .ok (.getfield 9, 3) := by decide +kernel
theorem dX4_sentPlain_9 : decode cX4_sentPlain 9 = .ok (.arraylength, 1) := by decide +kernel
theorem dX4_sentPlain_10 : decode cX4_sentPlain 10 = .ok (.if_icmp .ge 13, 3) := by decide +kernel
theorem dX4_sentPlain_13 : decode cX4_sentPlain 13 = .ok (.aload_n 0, 1) := by decide +kernel
theorem dX4_sentPlain_14 : decode cX4_sentPlain 14 = .ok (.getfield 9, 3) := by decide +kernel
theorem dX4_sentPlain_17 : decode cX4_sentPlain 17 = .ok (.iload_n 1, 1) := by decide +kernel
theorem dX4_sentPlain_18 : decode cX4_sentPlain 18 = .ok (.dup2, 1) := by decide +kernel
theorem dX4_sentPlain_19 : decode cX4_sentPlain 19 = .ok (.iaload, 1) := by decide +kernel
theorem dX4_sentPlain_20 : decode cX4_sentPlain 20 = .ok (.iconst 1, 1) := by decide +kernel
theorem dX4_sentPlain_21 : decode cX4_sentPlain 21 = .ok (.iadd, 1) := by decide +kernel
theorem dX4_sentPlain_22 : decode cX4_sentPlain 22 = .ok (.iastore, 1) := by decide +kernel
theorem dX4_sentPlain_23 : decode cX4_sentPlain 23 = .ok (.aload_n 0, 1) := by decide +kernel
theorem dX4_sentPlain_24 : decode cX4_sentPlain 24 = .ok (.dup, 1) := by decide +kernel
theorem dX4_sentPlain_25 : decode cX4_sentPlain 25 = .ok (.getfield 15, 3) := by decide +kernel
theorem dX4_sentPlain_28 : decode cX4_sentPlain 28 = .ok (.iload_n 2, 1) := by decide +kernel
theorem dX4_sentPlain_29 : decode cX4_sentPlain 29 = .ok (.iload_n 3, 1) := by decide +kernel
theorem dX4_sentPlain_30 : decode cX4_sentPlain 30 = .ok (.iadd, 1) := by decide +kernel
theorem dX4_sentPlain_31 : decode cX4_sentPlain 31 = .ok (.iadd, 1) := by decide +kernel
theorem dX4_sentPlain_32 : decode cX4_sentPlain 32 = .ok (.putfield 15, 3) := by decide +kernel
theorem dX4_sentPlain_35 : decode cX4_sentPlain 35 = .ok (.aload_n 0, 1) := by decide +kernel
theorem dX4_sentPlain_36 : decode cX4_sentPlain 36 = .ok (.dup, 1) := by decide +kernel
theorem dX4_sentPlain_37 : decode cX4_sentPlain 37 = .ok (.getfield 19, 3) := by decide +kernel
theorem dX4_sentPlain_40 : decode cX4_sentPlain 40 = .ok (.iconst 2, 1) := by decide +kernel
theorem dX4_sentPlain_41 : decode cX4_sentPlain 41 = .ok (.iload_n 2, 1) := by decide +kernel
theorem dX4_sentPlain_42 : decode cX4_sentPlain 42 = .ok (.imul, 1) := by decide +kernel
theorem dX4_sentPlain_43 : decode cX4_sentPlain 43 = .ok (.iadd, 1) := by decide +kernel
theorem dX4_sentPlain_44 : decode cX4_sentPlain 44 = .ok (.putfield 19, 3) := by decide +kernel
theorem dX4_sentPlain_47 : decode cX4_sentPlain 47 = .ok (.return_, 1) := by decide +kernel
theorem dX4_sentWith_0 : decode cX4_sentWith 0 = .ok (.iload_n 1, 1) := by decide +kernel
theorem dX4_sentWith_1 : decode cX4_sentWith 1 = .ok (.ifCond .lt 21, 3) := by decide +kernel
theorem dX4_sentWith_4 : decode cX4_sentWith 4 = .ok (.iload_n 1, 1) := by decide +kernel
theorem dX4_sentWith_5 : decode cX4_sentWith 5 = .ok (.aload_n 0, 1) := by decide +kernel
theorem dX4_sentWith_6 : decode cX4_sentWith 6 = .ok (.getfield 9, 3) := by decide +kernel
theorem dX4_sentWith_9 : decode cX4_sentWith 9 = .ok (.arraylength, 1) := by decide +kernel
theorem dX4_sentWith_10 : decode cX4_sentWith 10 = .ok (.if_icmp .ge 12, 3) := by decide +kernel
theorem dX4_sentWith_13 : decode cX4_sentWith 13 = .ok (.aload_n 0, 1) := by decide +kernel
theorem dX4_sentWith_14 : decode cX4_sentWith 14 = .ok (.getfield 9, 3) := by decide +kernel
theorem dX4_sentWith_17 : decode cX4_sentWith 17 = .ok (.iload_n 1, 1) := by decide +kernel
theorem dX4_sentWith_18 : decode cX4_sentWith 18 = .ok (.iaload, 1) := by decide +kernel
theorem dX4_sentWith_19 : decode cX4_sentWith 19 = .ok (.goto 4, 3) := by decide +kernel
theorem dX4_sentWith_22 : decode cX4_sentWith 22 = .ok (.iconst 0, 1) := by decide +kernel
theorem dX4_sentWith_23 : decode cX4_sentWith 23 = .ok (.ireturn, 1) := by decide +kernel
theorem dX4_bitsSent_0 : decode cX4_bitsSent 0 = .ok (.aload_n 0, 1) := by decide +kernel
theorem dX4_bitsSent_1 : decode cX4_bitsSent 1 = .ok (.getfield 15, 3) := by decide +kernel
theorem dX4_bitsSent_4 : decode cX4_bitsSent 4 = .ok (.ireturn, 1) := by decide +kernel
theorem dX4_bitsSentByBothPlainly_0 : decode cX4_bitsSentByBothPlainly 0 = .ok (.aload_n 0, 1) := by decide +kernel
theorem dX4_bitsSentByBothPlainly_1 : decode cX4_bitsSentByBothPlainly 1 = .ok (.getfield 19, 3) := by decide +kernel
theorem dX4_bitsSentByBothPlainly_4 : decode cX4_bitsSentByBothPlainly 4 = .ok (.ireturn, 1) := by decide +kernel
theorem dX4_timesSumsRead_0 : decode cX4_timesSumsRead 0 = .ok (.aload_n 0, 1) := by decide +kernel
theorem dX4_timesSumsRead_1 : decode cX4_timesSumsRead 1 = .ok (.getfield 22, 3) := by decide +kernel
theorem dX4_timesSumsRead_4 : decode cX4_timesSumsRead 4 = .ok (.ireturn, 1) := by decide +kernel
set_option maxRecDepth 20000 in
theorem ggX5_init_X1_init : GoodIn wsX5_init wsX1_init := goodIn_r _ [26, 27, 2, 3, 28, 29, 30, 65, 66] (by decide +kernel) (by decide +kernel)
set_option maxRecDepth 20000 in
theorem gX5_init_X1_init : GoodIn wsX5_init (wsX1_init) := ggX5_init_X1_init
set_option maxRecDepth 20000 in
theorem ggX5_init_X2_init : GoodIn wsX5_init wsX2_init := goodIn_r _ [33, 34, 2, 3, 28, 35, 36, 37, 38, 72, 73, 74, 75] (by decide +kernel) (by decide +kernel)
set_option maxRecDepth 20000 in
theorem gX5_init_X2_init : GoodIn wsX5_init (wsX2_init) := ggX5_init_X2_init
set_option maxRecDepth 20000 in
theorem ggX5_init_X3_init : GoodIn wsX5_init wsX3_init := goodIn_r _ [41, 42, 2, 3, 28, 43, 44, 45, 46, 47, 48, 49, 50, 51, 76, 77, 78, 79, 80, 81, 82, 83, 84] (by decide +kernel) (by decide +kernel)
set_option maxRecDepth 20000 in
theorem gX5_init_X3_init : GoodIn wsX5_init (wsX3_init) := ggX5_init_X3_init
set_option maxRecDepth 20000 in
theorem ggX5_init_X4_init : GoodIn wsX5_init wsX4_init := goodIn_r _ [54, 55, 2, 3, 28, 56, 57, 58, 59, 85, 86, 87, 88] (by decide +kernel) (by decide +kernel)
set_option maxRecDepth 20000 in
theorem gX5_init_X4_init : GoodIn wsX5_init (wsX4_init) := ggX5_init_X4_init
set_option maxRecDepth 20000 in
theorem ggX5_init_X0_init : GoodIn wsX5_init wsX0_init := goodIn_r _ [62, 63, 2, 3, 64, 89] (by decide +kernel) (by decide +kernel)
set_option maxRecDepth 20000 in
theorem gX5_init_X0_init : GoodIn wsX5_init (wsX0_init) := ggX5_init_X0_init
