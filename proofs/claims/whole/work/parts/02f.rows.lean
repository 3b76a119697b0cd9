theorem dX6_share_0 : decode cX6_share 0 = .ok (.aload_n 0, 1) := by decide +kernel
theorem dX6_share_1 : decode cX6_share 1 = .ok (.invokevirtual 99, 3) := by decide +kernel
theorem dX6_share_4 : decode cX6_share 4 = .ok (.ifCond .ne 7, 3) := by decide +kernel
theorem dX6_share_7 : decode cX6_share 7 = .ok (.sipush (-1003), 3) := by decide +kernel
theorem dX6_share_10 : decode cX6_share 10 = .ok (.ireturn, 1) := by decide +kernel
theorem dX6_share_11 : decode cX6_share 11 = .ok (.aload_n 0, 1) := by decide +kernel
theorem dX6_share_12 : decode cX6_share 12 = .ok (.iload_n 1, 1) := by decide +kernel
theorem dX6_share_13 : decode cX6_share 13 = .ok (.iload_n 2, 1) := by decide +kernel
theorem dX6_share_14 : decode cX6_share 14 = .ok (.invokevirtual 140, 3) := by decide +kernel
theorem dX6_share_17 : decode cX6_share 17 = .ok (.ifCond .eq 12, 3) := by decide +kernel
theorem dX6_share_20 : decode cX6_share 20 = .ok (.iload_n 3, 1) := by decide +kernel
theorem dX6_share_21 : decode cX6_share 21 = .ok (.iconst 0, 1) := by decide +kernel
theorem dX6_share_22 : decode cX6_share 22 = .ok (.iconst 1, 1) := by decide +kernel
theorem dX6_share_23 : decode cX6_share 23 = .ok (.invokestatic 32, 3) := by decide +kernel
theorem dX6_share_26 : decode cX6_share 26 = .ok (.ifCond .ne 7, 3) := by decide +kernel
theorem dX6_share_29 : decode cX6_share 29 = .ok (.sipush (-1002), 3) := by decide +kernel
theorem dX6_share_32 : decode cX6_share 32 = .ok (.ireturn, 1) := by decide +kernel
theorem dX6_share_33 : decode cX6_share 33 = .ok (.iload_n 3, 1) := by decide +kernel
theorem dX6_share_34 : decode cX6_share 34 = .ok (.iconst 1, 1) := by decide +kernel
theorem dX6_share_35 : decode cX6_share 35 = .ok (.if_icmp .ne 19, 3) := by decide +kernel
theorem dX6_share_38 : decode cX6_share 38 = .ok (.iconst 2, 1) := by decide +kernel
theorem dX6_share_39 : decode cX6_share 39 = .ok (.aload_n 0, 1) := by decide +kernel
theorem dX6_share_40 : decode cX6_share 40 = .ok (.getfield 78, 3) := by decide +kernel
theorem dX6_share_43 : decode cX6_share 43 = .ok (.imul, 1) := by decide +kernel
theorem dX6_share_44 : decode cX6_share 44 = .ok (.iload_n 1, 1) := by decide +kernel
theorem dX6_share_45 : decode cX6_share 45 = .ok (.iload_n 2, 1) := by decide +kernel
theorem dX6_share_46 : decode cX6_share 46 = .ok (.ior, 1) := by decide +kernel
theorem dX6_share_47 : decode cX6_share 47 = .ok (.invokestatic 68, 3) := by decide +kernel
theorem dX6_share_50 : decode cX6_share 50 = .ok (.iadd, 1) := by decide +kernel
theorem dX6_share_51 : decode cX6_share 51 = .ok (.goto 18, 3) := by decide +kernel
theorem dX6_share_54 : decode cX6_share 54 = .ok (.aload_n 0, 1) := by decide +kernel
theorem dX6_share_55 : decode cX6_share 55 = .ok (.iload_n 1, 1) := by decide +kernel
theorem dX6_share_56 : decode cX6_share 56 = .ok (.iload_n 2, 1) := by decide +kernel
theorem dX6_share_57 : decode cX6_share 57 = .ok (.ior, 1) := by decide +kernel
theorem dX6_share_58 : decode cX6_share 58 = .ok (.invokevirtual 144, 3) := by decide +kernel
theorem dX6_share_61 : decode cX6_share 61 = .ok (.ifCond .eq 7, 3) := by decide +kernel
theorem dX6_share_64 : decode cX6_share 64 = .ok (.iconst 1, 1) := by decide +kernel
theorem dX6_share_65 : decode cX6_share 65 = .ok (.goto 4, 3) := by decide +kernel
theorem dX6_share_68 : decode cX6_share 68 = .ok (.iconst 0, 1) := by decide +kernel
theorem dX6_share_69 : decode cX6_share 69 = .ok (.ireturn, 1) := by decide +kernel
set_option maxRecDepth 20000 in
theorem ggX6_sharedNow_X6_isEnough : GoodIn wsX6_sharedNow wsX6_isEnough := goodIn_r _ [6, 1, 7, 8, 9, 5, 10, 11, 17, 18, 19, 20, 21, 22, 23, 24, 25, 26, 27, 28, 29, 30, 31, 32, 33, 34, 35, 36, 37] (by decide +kernel) (by decide +kernel)
set_option maxRecDepth 20000 in
theorem gX6_sharedNow_X6_isEnough : GoodIn wsX6_sharedNow (wsV RX6 144 RX6 yX6_isEnough wsX6_isEnough) := goodIn_app (goodIn_of _ (by decide +kernel)) ggX6_sharedNow_X6_isEnough
set_option maxRecDepth 20000 in
theorem ggX6_sharedNow_X6_flipsOf : GoodIn wsX6_sharedNow wsX6_flipsOf := goodIn_r _ [15, 16, 1, 17, 18, 19, 20, 21, 22, 23, 24, 25, 26, 27, 28, 29, 30, 31, 32, 33, 34, 35, 36, 37] (by decide +kernel) (by decide +kernel)
set_option maxRecDepth 20000 in
theorem gX6_sharedNow_X6_flipsOf : GoodIn wsX6_sharedNow (wsV RX6 125 RX6 yX6_flipsOf wsX6_flipsOf) := goodIn_app (goodIn_of _ (by decide +kernel)) ggX6_sharedNow_X6_flipsOf
set_option maxRecDepth 20000 in
theorem ggX6_sharedNow_X6_words : GoodIn wsX6_sharedNow wsX6_words := goodIn_r _ [10, 11, 17, 18, 19, 20, 21, 22, 23, 24, 25, 26, 27, 28, 29, 30, 31, 32, 33, 34, 35, 36, 37] (by decide +kernel) (by decide +kernel)
set_option maxRecDepth 20000 in
theorem gX6_sharedNow_X6_words : GoodIn wsX6_sharedNow (wsV RX6 72 RX6 yX6_words wsX6_words) := goodIn_app (goodIn_of _ (by decide +kernel)) ggX6_sharedNow_X6_words
theorem dX6_sharedNow_0 : decode cX6_sharedNow 0 = .ok (.aload_n 0, 1) := by decide +kernel
theorem dX6_sharedNow_1 : decode cX6_sharedNow 1 = .ok (.iload_n 1, 1) := by decide +kernel
theorem dX6_sharedNow_2 : decode cX6_sharedNow 2 = .ok (.iload_n 2, 1) := by decide +kernel
theorem dX6_sharedNow_3 : decode cX6_sharedNow 3 = .ok (.ior, 1) := by decide +kernel
theorem dX6_sharedNow_4 : decode cX6_sharedNow 4 = .ok (.invokevirtual 144, 3) := by decide +kernel
theorem dX6_sharedNow_7 : decode cX6_sharedNow 7 = .ok (.ifCond .ne 7, 3) := by decide +kernel
theorem dX6_sharedNow_10 : decode cX6_sharedNow 10 = .ok (.sipush (-1001), 3) := by decide +kernel
theorem dX6_sharedNow_13 : decode cX6_sharedNow 13 = .ok (.ireturn, 1) := by decide +kernel
theorem dX6_sharedNow_14 : decode cX6_sharedNow 14 = .ok (.aload_n 0, 1) := by decide +kernel
theorem dX6_sharedNow_15 : decode cX6_sharedNow 15 = .ok (.iload_n 3, 1) := by decide +kernel
theorem dX6_sharedNow_16 : decode cX6_sharedNow 16 = .ok (.iload 4, 2) := by decide +kernel
theorem dX6_sharedNow_18 : decode cX6_sharedNow 18 = .ok (.invokevirtual 125, 3) := by decide +kernel
theorem dX6_sharedNow_21 : decode cX6_sharedNow 21 = .ok (.istore 6, 2) := by decide +kernel
theorem dX6_sharedNow_23 : decode cX6_sharedNow 23 = .ok (.iload_n 3, 1) := by decide +kernel
theorem dX6_sharedNow_24 : decode cX6_sharedNow 24 = .ok (.iload_n 1, 1) := by decide +kernel
theorem dX6_sharedNow_25 : decode cX6_sharedNow 25 = .ok (.iand, 1) := by decide +kernel
theorem dX6_sharedNow_26 : decode cX6_sharedNow 26 = .ok (.iload 4, 2) := by decide +kernel
theorem dX6_sharedNow_28 : decode cX6_sharedNow 28 = .ok (.iload 6, 2) := by decide +kernel
theorem dX6_sharedNow_30 : decode cX6_sharedNow 30 = .ok (.ixor, 1) := by decide +kernel
theorem dX6_sharedNow_31 : decode cX6_sharedNow 31 = .ok (.iload_n 2, 1) := by decide +kernel
theorem dX6_sharedNow_32 : decode cX6_sharedNow 32 = .ok (.iand, 1) := by decide +kernel
theorem dX6_sharedNow_33 : decode cX6_sharedNow 33 = .ok (.ior, 1) := by decide +kernel
theorem dX6_sharedNow_34 : decode cX6_sharedNow 34 = .ok (.istore 7, 2) := by decide +kernel
theorem dX6_sharedNow_36 : decode cX6_sharedNow 36 = .ok (.sipush (-1001), 3) := by decide +kernel
theorem dX6_sharedNow_39 : decode cX6_sharedNow 39 = .ok (.istore 8, 2) := by decide +kernel
theorem dX6_sharedNow_41 : decode cX6_sharedNow 41 = .ok (.iconst 0, 1) := by decide +kernel
theorem dX6_sharedNow_42 : decode cX6_sharedNow 42 = .ok (.istore 9, 2) := by decide +kernel
theorem dX6_sharedNow_44 : decode cX6_sharedNow 44 = .ok (.iload 9, 2) := by decide +kernel
theorem dX6_sharedNow_46 : decode cX6_sharedNow 46 = .ok (.aload_n 0, 1) := by decide +kernel
theorem dX6_sharedNow_47 : decode cX6_sharedNow 47 = .ok (.invokevirtual 72, 3) := by decide +kernel
theorem dX6_sharedNow_50 : decode cX6_sharedNow 50 = .ok (.if_icmp .ge 45, 3) := by decide +kernel
theorem dX6_sharedNow_53 : decode cX6_sharedNow 53 = .ok (.aload_n 0, 1) := by decide +kernel
theorem dX6_sharedNow_54 : decode cX6_sharedNow 54 = .ok (.getfield 26, 3) := by decide +kernel
theorem dX6_sharedNow_57 : decode cX6_sharedNow 57 = .ok (.iload 9, 2) := by decide +kernel
theorem dX6_sharedNow_59 : decode cX6_sharedNow 59 = .ok (.iaload, 1) := by decide +kernel
theorem dX6_sharedNow_60 : decode cX6_sharedNow 60 = .ok (.aload_n 0, 1) := by decide +kernel
theorem dX6_sharedNow_61 : decode cX6_sharedNow 61 = .ok (.getfield 26, 3) := by decide +kernel
theorem dX6_sharedNow_64 : decode cX6_sharedNow 64 = .ok (.iload_n 3, 1) := by decide +kernel
theorem dX6_sharedNow_65 : decode cX6_sharedNow 65 = .ok (.iaload, 1) := by decide +kernel
theorem dX6_sharedNow_66 : decode cX6_sharedNow 66 = .ok (.if_icmp .ne 19, 3) := by decide +kernel
theorem dX6_sharedNow_69 : decode cX6_sharedNow 69 = .ok (.iload 9, 2) := by decide +kernel
theorem dX6_sharedNow_71 : decode cX6_sharedNow 71 = .ok (.iload_n 1, 1) := by decide +kernel
theorem dX6_sharedNow_72 : decode cX6_sharedNow 72 = .ok (.iload_n 2, 1) := by decide +kernel
theorem dX6_sharedNow_73 : decode cX6_sharedNow 73 = .ok (.ior, 1) := by decide +kernel
theorem dX6_sharedNow_74 : decode cX6_sharedNow 74 = .ok (.iand, 1) := by decide +kernel
theorem dX6_sharedNow_75 : decode cX6_sharedNow 75 = .ok (.iload 7, 2) := by decide +kernel
theorem dX6_sharedNow_77 : decode cX6_sharedNow 77 = .ok (.if_icmp .ne 8, 3) := by decide +kernel
theorem dX6_sharedNow_80 : decode cX6_sharedNow 80 = .ok (.iload 9, 2) := by decide +kernel
theorem dX6_sharedNow_82 : decode cX6_sharedNow 82 = .ok (.goto 5, 3) := by decide +kernel
theorem dX6_sharedNow_85 : decode cX6_sharedNow 85 = .ok (.iload 8, 2) := by decide +kernel
theorem dX6_sharedNow_87 : decode cX6_sharedNow 87 = .ok (.istore 8, 2) := by decide +kernel
theorem dX6_sharedNow_89 : decode cX6_sharedNow 89 = .ok (.iinc 9 1, 3) := by decide +kernel
theorem dX6_sharedNow_92 : decode cX6_sharedNow 92 = .ok (.goto (-48), 3) := by decide +kernel
theorem dX6_sharedNow_95 : decode cX6_sharedNow 95 = .ok (.iload 8, 2) := by decide +kernel
theorem dX6_sharedNow_97 : decode cX6_sharedNow 97 = .ok (.sipush (-1001), 3) := by decide +kernel
theorem dX6_sharedNow_100 : decode cX6_sharedNow 100 = .ok (.if_icmp .eq 8, 3) := by decide +kernel
theorem dX6_sharedNow_103 : decode cX6_sharedNow 103 = .ok (.iload 5, 2) := by decide +kernel
theorem dX6_sharedNow_105 : decode cX6_sharedNow 105 = .ok (.ifCond .ne 8, 3) := by decide +kernel
theorem dX6_sharedNow_108 : decode cX6_sharedNow 108 = .ok (.iload 8, 2) := by decide +kernel
theorem dX6_sharedNow_110 : decode cX6_sharedNow 110 = .ok (.goto 8, 3) := by decide +kernel
theorem dX6_sharedNow_113 : decode cX6_sharedNow 113 = .ok (.iload 8, 2) := by decide +kernel
theorem dX6_sharedNow_115 : decode cX6_sharedNow 115 = .ok (.iload 6, 2) := by decide +kernel
theorem dX6_sharedNow_117 : decode cX6_sharedNow 117 = .ok (.ixor, 1) := by decide +kernel
theorem dX6_sharedNow_118 : decode cX6_sharedNow 118 = .ok (.ireturn, 1) := by decide +kernel
set_option maxRecDepth 20000 in
theorem ggX6_shared_X6_isThere : GoodIn wsX6_shared wsX6_isThere := goodIn_r _ [5, 6, 37, 38, 39, 40, 41, 42, 43, 44, 45, 46, 47, 48, 49, 50, 51, 52, 53, 54, 55, 56, 57] (by decide +kernel) (by decide +kernel)
set_option maxRecDepth 20000 in
theorem gX6_shared_X6_isThere : GoodIn wsX6_shared (wsV RX6 99 RX6 yX6_isThere wsX6_isThere) := goodIn_app (goodIn_of _ (by decide +kernel)) ggX6_shared_X6_isThere
set_option maxRecDepth 20000 in
theorem ggX6_shared_X6_areSets : GoodIn wsX6_shared wsX6_areSets := goodIn_r _ [10, 11, 12, 13, 4, 14, 15, 16, 17, 18, 19, 20, 21, 22, 37, 38, 39, 40, 41, 42, 43, 44, 45, 46, 47, 48, 49, 50, 51, 52, 53, 54, 55, 56, 57] (by decide +kernel) (by decide +kernel)
set_option maxRecDepth 20000 in
theorem gX6_shared_X6_areSets : GoodIn wsX6_shared (wsV RX6 140 RX6 yX6_areSets wsX6_areSets) := goodIn_app (goodIn_of _ (by decide +kernel)) ggX6_shared_X6_areSets
set_option maxRecDepth 20000 in
theorem ggX6_shared_X6_isWord : GoodIn wsX6_shared wsX6_isWord := goodIn_r _ [14, 15, 16, 17, 4, 18, 19, 20, 21, 22, 37, 38, 39, 40, 41, 42, 43, 44, 45, 46, 47, 48, 49, 50, 51, 52, 53, 54, 55, 56, 57] (by decide +kernel) (by decide +kernel)
set_option maxRecDepth 20000 in
theorem gX6_shared_X6_isWord : GoodIn wsX6_shared (wsV RX6 106 RX6 yX6_isWord wsX6_isWord) := goodIn_app (goodIn_of _ (by decide +kernel)) ggX6_shared_X6_isWord
set_option maxRecDepth 20000 in
theorem ggX6_shared_X6_sharedNow : GoodIn wsX6_shared wsX6_sharedNow := goodIn_r _ [26, 27, 28, 29, 30, 4, 31, 15, 16, 17, 18, 19, 32, 33, 34, 35, 36, 37, 38, 39, 40, 41, 42, 43, 44, 45, 46, 47, 48, 49, 50, 51, 52, 53, 54, 55, 56, 57] (by decide +kernel) (by decide +kernel)
set_option maxRecDepth 20000 in
theorem gX6_shared_X6_sharedNow : GoodIn wsX6_shared (wsV RX6 147 RX6 yX6_sharedNow wsX6_sharedNow) := goodIn_app (goodIn_of _ (by decide +kernel)) ggX6_shared_X6_sharedNow
theorem dX6_shared_0 : decode cX6_shared 0 = .ok (.aload_n 0, 1) := by decide +kernel
theorem dX6_shared_1 : decode cX6_shared 1 = .ok (.invokevirtual 99, 3) := by decide +kernel
theorem dX6_shared_4 : decode cX6_shared 4 = .ok (.ifCond .ne 7, 3) := by decide +kernel
theorem dX6_shared_7 : decode cX6_shared 7 = .ok (.sipush (-1003), 3) := by decide +kernel
theorem dX6_shared_10 : decode cX6_shared 10 = .ok (.ireturn, 1) := by decide +kernel
theorem dX6_shared_11 : decode cX6_shared 11 = .ok (.aload_n 0, 1) := by decide +kernel
theorem dX6_shared_12 : decode cX6_shared 12 = .ok (.iload_n 1, 1) := by decide +kernel
theorem dX6_shared_13 : decode cX6_shared 13 = .ok (.iload_n 2, 1) := by decide +kernel
theorem dX6_shared_14 : decode cX6_shared 14 = .ok (.invokevirtual 140, 3) := by decide +kernel
theorem dX6_shared_17 : decode cX6_shared 17 = .ok (.ifCond .eq 34, 3) := by decide +kernel
theorem dX6_shared_20 : decode cX6_shared 20 = .ok (.aload_n 0, 1) := by decide +kernel
theorem dX6_shared_21 : decode cX6_shared 21 = .ok (.iload_n 3, 1) := by decide +kernel
theorem dX6_shared_22 : decode cX6_shared 22 = .ok (.invokevirtual 106, 3) := by decide +kernel
theorem dX6_shared_25 : decode cX6_shared 25 = .ok (.ifCond .eq 26, 3) := by decide +kernel
theorem dX6_shared_28 : decode cX6_shared 28 = .ok (.aload_n 0, 1) := by decide +kernel
theorem dX6_shared_29 : decode cX6_shared 29 = .ok (.iload 4, 2) := by decide +kernel
theorem dX6_shared_31 : decode cX6_shared 31 = .ok (.invokevirtual 106, 3) := by decide +kernel
theorem dX6_shared_34 : decode cX6_shared 34 = .ok (.ifCond .eq 17, 3) := by decide +kernel
theorem dX6_shared_37 : decode cX6_shared 37 = .ok (.aload_n 0, 1) := by decide +kernel
theorem dX6_shared_38 : decode cX6_shared 38 = .ok (.iload_n 1, 1) := by decide +kernel
theorem dX6_shared_39 : decode cX6_shared 39 = .ok (.iload_n 2, 1) := by decide +kernel
theorem dX6_shared_40 : decode cX6_shared 40 = .ok (.iload_n 3, 1) := by decide +kernel
theorem dX6_shared_41 : decode cX6_shared 41 = .ok (.iload 4, 2) := by decide +kernel
theorem dX6_shared_43 : decode cX6_shared 43 = .ok (.iload 5, 2) := by decide +kernel
theorem dX6_shared_45 : decode cX6_shared 45 = .ok (.invokevirtual 147, 3) := by decide +kernel
theorem dX6_shared_48 : decode cX6_shared 48 = .ok (.goto 6, 3) := by decide +kernel
theorem dX6_shared_51 : decode cX6_shared 51 = .ok (.sipush (-1002), 3) := by decide +kernel
theorem dX6_shared_54 : decode cX6_shared 54 = .ok (.ireturn, 1) := by decide +kernel
theorem dX6_draw_0 : decode cX6_draw 0 = .ok (.ldc2_w 151, 3) := by decide +kernel
theorem dX6_draw_3 : decode cX6_draw 3 = .ok (.aload_n 0, 1) := by decide +kernel
theorem dX6_draw_4 : decode cX6_draw 4 = .ok (.getfield 16, 3) := by decide +kernel
theorem dX6_draw_7 : decode cX6_draw 7 = .ok (.i2l, 1) := by decide +kernel
theorem dX6_draw_8 : decode cX6_draw 8 = .ok (.lmul, 1) := by decide +kernel
theorem dX6_draw_9 : decode cX6_draw 9 = .ok (.ldc2_w 153, 3) := by decide +kernel
theorem dX6_draw_12 : decode cX6_draw 12 = .ok (.ladd, 1) := by decide +kernel
theorem dX6_draw_13 : decode cX6_draw 13 = .ok (.ldc2_w 155, 3) := by decide +kernel
theorem dX6_draw_16 : decode cX6_draw 16 = .ok (.lrem, 1) := by decide +kernel
theorem dX6_draw_17 : decode cX6_draw 17 = .ok (.lstore_n 2, 1) := by decide +kernel
theorem dX6_draw_18 : decode cX6_draw 18 = .ok (.aload_n 0, 1) := by decide +kernel
theorem dX6_draw_19 : decode cX6_draw 19 = .ok (.lload_n 2, 1) := by decide +kernel
theorem dX6_draw_20 : decode cX6_draw 20 = .ok (.l2i, 1) := by decide +kernel
theorem dX6_draw_21 : decode cX6_draw 21 = .ok (.putfield 16, 3) := by decide +kernel
theorem dX6_draw_24 : decode cX6_draw 24 = .ok (.lload_n 2, 1) := by decide +kernel
theorem dX6_draw_25 : decode cX6_draw 25 = .ok (.ldc2_w 157, 3) := by decide +kernel
theorem dX6_draw_28 : decode cX6_draw 28 = .ok (.ldiv, 1) := by decide +kernel
theorem dX6_draw_29 : decode cX6_draw 29 = .ok (.iload_n 1, 1) := by decide +kernel
theorem dX6_draw_30 : decode cX6_draw 30 = .ok (.i2l, 1) := by decide +kernel
theorem dX6_draw_31 : decode cX6_draw 31 = .ok (.lrem, 1) := by decide +kernel
theorem dX6_draw_32 : decode cX6_draw 32 = .ok (.l2i, 1) := by decide +kernel
theorem dX6_draw_33 : decode cX6_draw 33 = .ok (.ireturn, 1) := by decide +kernel
set_option maxRecDepth 20000 in
theorem ggX6_runNow_X6_words : GoodIn wsX6_runNow wsX6_words := goodIn_r _ [7, 2, 38, 39, 40, 41, 42, 43, 44, 45, 46, 47, 48, 49, 50, 51, 52, 53, 54, 55, 56, 57, 58] (by decide +kernel) (by decide +kernel)
set_option maxRecDepth 20000 in
theorem gX6_runNow_X6_words : GoodIn wsX6_runNow (wsV RX6 72 RX6 yX6_words wsX6_words) := goodIn_app (goodIn_of _ (by decide +kernel)) ggX6_runNow_X6_words
set_option maxRecDepth 20000 in
theorem ggX6_runNow_X6_draw : GoodIn wsX6_runNow wsX6_draw := goodIn_r _ [11, 12, 1, 13, 14, 15, 38, 39, 40, 41, 42, 43, 44, 45, 46, 47, 48, 49, 50, 51, 52, 53, 54, 55, 56, 57, 58] (by decide +kernel) (by decide +kernel)
set_option maxRecDepth 20000 in
theorem gX6_runNow_X6_draw : GoodIn wsX6_runNow (wsV RX6 159 RX6 yX6_draw wsX6_draw) := goodIn_app (goodIn_of _ (by decide +kernel)) ggX6_runNow_X6_draw
set_option maxRecDepth 20000 in
theorem ggX6_runNow_X6_sendNow : GoodIn wsX6_runNow wsX6_sendNow := goodIn_r _ [19, 20, 21, 2, 22, 23, 24, 25, 26, 6, 27, 28, 29, 30, 31, 32, 33, 34, 35, 36, 37, 38, 39, 40, 41, 42, 43, 44, 45, 46, 47, 48, 49, 50, 51, 52, 53, 54, 55, 56, 57, 58] (by decide +kernel) (by decide +kernel)
set_option maxRecDepth 20000 in
theorem gX6_runNow_X6_sendNow : GoodIn wsX6_runNow (wsV RX6 137 RX6 yX6_sendNow wsX6_sendNow) := goodIn_app (goodIn_of _ (by decide +kernel)) ggX6_runNow_X6_sendNow
theorem dX6_runNow_0 : decode cX6_runNow 0 = .ok (.iconst 0, 1) := by decide +kernel
theorem dX6_runNow_1 : decode cX6_runNow 1 = .ok (.istore 4, 2) := by decide +kernel
theorem dX6_runNow_3 : decode cX6_runNow 3 = .ok (.aload_n 0, 1) := by decide +kernel
theorem dX6_runNow_4 : decode cX6_runNow 4 = .ok (.iload_n 1, 1) := by decide +kernel
theorem dX6_runNow_5 : decode cX6_runNow 5 = .ok (.putfield 16, 3) := by decide +kernel
theorem dX6_runNow_8 : decode cX6_runNow 8 = .ok (.iconst 0, 1) := by decide +kernel
theorem dX6_runNow_9 : decode cX6_runNow 9 = .ok (.istore 5, 2) := by decide +kernel
theorem dX6_runNow_11 : decode cX6_runNow 11 = .ok (.iload 5, 2) := by decide +kernel
theorem dX6_runNow_13 : decode cX6_runNow 13 = .ok (.iload_n 2, 1) := by decide +kernel
theorem dX6_runNow_14 : decode cX6_runNow 14 = .ok (.if_icmp .ge 86, 3) := by decide +kernel
theorem dX6_runNow_17 : decode cX6_runNow 17 = .ok (.aload_n 0, 1) := by decide +kernel
theorem dX6_runNow_18 : decode cX6_runNow 18 = .ok (.aload_n 0, 1) := by decide +kernel
theorem dX6_runNow_19 : decode cX6_runNow 19 = .ok (.invokevirtual 72, 3) := by decide +kernel
theorem dX6_runNow_22 : decode cX6_runNow 22 = .ok (.invokevirtual 159, 3) := by decide +kernel
theorem dX6_runNow_25 : decode cX6_runNow 25 = .ok (.istore 6, 2) := by decide +kernel
theorem dX6_runNow_27 : decode cX6_runNow 27 = .ok (.iload 6, 2) := by decide +kernel
theorem dX6_runNow_29 : decode cX6_runNow 29 = .ok (.istore 7, 2) := by decide +kernel
theorem dX6_runNow_31 : decode cX6_runNow 31 = .ok (.iconst 0, 1) := by decide +kernel
theorem dX6_runNow_32 : decode cX6_runNow 32 = .ok (.istore 8, 2) := by decide +kernel
theorem dX6_runNow_34 : decode cX6_runNow 34 = .ok (.iload 8, 2) := by decide +kernel
theorem dX6_runNow_36 : decode cX6_runNow 36 = .ok (.aload_n 0, 1) := by decide +kernel
theorem dX6_runNow_37 : decode cX6_runNow 37 = .ok (.getfield 59, 3) := by decide +kernel
theorem dX6_runNow_40 : decode cX6_runNow 40 = .ok (.if_icmp .ge 32, 3) := by decide +kernel
theorem dX6_runNow_43 : decode cX6_runNow 43 = .ok (.iload 7, 2) := by decide +kernel
theorem dX6_runNow_45 : decode cX6_runNow 45 = .ok (.aload_n 0, 1) := by decide +kernel
theorem dX6_runNow_46 : decode cX6_runNow 46 = .ok (.bipush 16, 2) := by decide +kernel
theorem dX6_runNow_48 : decode cX6_runNow 48 = .ok (.invokevirtual 159, 3) := by decide +kernel
theorem dX6_runNow_51 : decode cX6_runNow 51 = .ok (.iload_n 3, 1) := by decide +kernel
theorem dX6_runNow_52 : decode cX6_runNow 52 = .ok (.if_icmp .ge 10, 3) := by decide +kernel
theorem dX6_runNow_55 : decode cX6_runNow 55 = .ok (.iconst 1, 1) := by decide +kernel
theorem dX6_runNow_56 : decode cX6_runNow 56 = .ok (.iload 8, 2) := by decide +kernel
theorem dX6_runNow_58 : decode cX6_runNow 58 = .ok (.ishl, 1) := by decide +kernel
theorem dX6_runNow_59 : decode cX6_runNow 59 = .ok (.goto 4, 3) := by decide +kernel
theorem dX6_runNow_62 : decode cX6_runNow 62 = .ok (.iconst 0, 1) := by decide +kernel
theorem dX6_runNow_63 : decode cX6_runNow 63 = .ok (.ixor, 1) := by decide +kernel
theorem dX6_runNow_64 : decode cX6_runNow 64 = .ok (.istore 7, 2) := by decide +kernel
theorem dX6_runNow_66 : decode cX6_runNow 66 = .ok (.iinc 8 1, 3) := by decide +kernel
theorem dX6_runNow_69 : decode cX6_runNow 69 = .ok (.goto (-35), 3) := by decide +kernel
theorem dX6_runNow_72 : decode cX6_runNow 72 = .ok (.iload 4, 2) := by decide +kernel
theorem dX6_runNow_74 : decode cX6_runNow 74 = .ok (.aload_n 0, 1) := by decide +kernel
theorem dX6_runNow_75 : decode cX6_runNow 75 = .ok (.iload 6, 2) := by decide +kernel
theorem dX6_runNow_77 : decode cX6_runNow 77 = .ok (.iload 7, 2) := by decide +kernel
theorem dX6_runNow_79 : decode cX6_runNow 79 = .ok (.invokevirtual 137, 3) := by decide +kernel
theorem dX6_runNow_82 : decode cX6_runNow 82 = .ok (.iconst 3, 1) := by decide +kernel
theorem dX6_runNow_83 : decode cX6_runNow 83 = .ok (.if_icmp .ne 7, 3) := by decide +kernel
theorem dX6_runNow_86 : decode cX6_runNow 86 = .ok (.iconst 1, 1) := by decide +kernel
theorem dX6_runNow_87 : decode cX6_runNow 87 = .ok (.goto 4, 3) := by decide +kernel
theorem dX6_runNow_90 : decode cX6_runNow 90 = .ok (.iconst 0, 1) := by decide +kernel
theorem dX6_runNow_91 : decode cX6_runNow 91 = .ok (.iadd, 1) := by decide +kernel
theorem dX6_runNow_92 : decode cX6_runNow 92 = .ok (.istore 4, 2) := by decide +kernel
theorem dX6_runNow_94 : decode cX6_runNow 94 = .ok (.iinc 5 1, 3) := by decide +kernel
theorem dX6_runNow_97 : decode cX6_runNow 97 = .ok (.goto (-86), 3) := by decide +kernel
theorem dX6_runNow_100 : decode cX6_runNow 100 = .ok (.iload 4, 2) := by decide +kernel
theorem dX6_runNow_102 : decode cX6_runNow 102 = .ok (.ireturn, 1) := by decide +kernel
set_option maxRecDepth 20000 in
theorem ggX6_run_X6_isThere : GoodIn wsX6_run wsX6_isThere := goodIn_r _ [5, 6, 50, 51, 52, 53, 54, 55, 56, 57, 58, 59, 60, 61, 62, 63, 64, 65, 66, 67, 68, 69, 70] (by decide +kernel) (by decide +kernel)
set_option maxRecDepth 20000 in
theorem gX6_run_X6_isThere : GoodIn wsX6_run (wsV RX6 99 RX6 yX6_isThere wsX6_isThere) := goodIn_app (goodIn_of _ (by decide +kernel)) ggX6_run_X6_isThere
set_option maxRecDepth 20000 in
theorem ggX6_run_X6_within : GoodIn wsX6_run wsX6_within := goodIn_r _ [9] (by decide +kernel) (by decide +kernel)
set_option maxRecDepth 20000 in
theorem gX6_run_X6_within : GoodIn wsX6_run (va_wsS RX6 32 yX6_within wsX6_within) := goodIn_app (goodIn_of _ (by decide +kernel)) ggX6_run_X6_within
set_option maxRecDepth 20000 in
theorem ggX6_run_X6_runNow : GoodIn wsX6_run wsX6_runNow := goodIn_r _ [13, 14, 15, 16, 17, 18, 4, 19, 20, 21, 22, 23, 24, 25, 26, 27, 28, 29, 30, 31, 32, 33, 34, 35, 36, 37, 38, 39, 40, 41, 42, 43, 44, 45, 46, 47, 48, 49, 50, 51, 52, 53, 54, 55, 56, 57, 58, 59, 60, 61, 62, 63, 64, 65, 66, 67, 68, 69, 70] (by decide +kernel) (by decide +kernel)
set_option maxRecDepth 20000 in
theorem gX6_run_X6_runNow : GoodIn wsX6_run (wsV RX6 162 RX6 yX6_runNow wsX6_runNow) := goodIn_app (goodIn_of _ (by decide +kernel)) ggX6_run_X6_runNow
theorem dX6_run_0 : decode cX6_run 0 = .ok (.aload_n 0, 1) := by decide +kernel
theorem dX6_run_1 : decode cX6_run 1 = .ok (.invokevirtual 99, 3) := by decide +kernel
theorem dX6_run_4 : decode cX6_run 4 = .ok (.ifCond .ne 7, 3) := by decide +kernel
theorem dX6_run_7 : decode cX6_run 7 = .ok (.sipush (-1003), 3) := by decide +kernel
theorem dX6_run_10 : decode cX6_run 10 = .ok (.ireturn, 1) := by decide +kernel
theorem dX6_run_11 : decode cX6_run 11 = .ok (.iload_n 1, 1) := by decide +kernel
theorem dX6_run_12 : decode cX6_run 12 = .ok (.ifCond .lt 33, 3) := by decide +kernel
theorem dX6_run_15 : decode cX6_run 15 = .ok (.iload_n 2, 1) := by decide +kernel
theorem dX6_run_16 : decode cX6_run 16 = .ok (.iconst 1, 1) := by decide +kernel
theorem dX6_run_17 : decode cX6_run 17 = .ok (.bipush 50, 2) := by decide +kernel
theorem dX6_run_19 : decode cX6_run 19 = .ok (.invokestatic 32, 3) := by decide +kernel
theorem dX6_run_22 : decode cX6_run 22 = .ok (.ifCond .eq 23, 3) := by decide +kernel
theorem dX6_run_25 : decode cX6_run 25 = .ok (.iload_n 3, 1) := by decide +kernel
theorem dX6_run_26 : decode cX6_run 26 = .ok (.iconst 0, 1) := by decide +kernel
theorem dX6_run_27 : decode cX6_run 27 = .ok (.bipush 16, 2) := by decide +kernel
theorem dX6_run_29 : decode cX6_run 29 = .ok (.invokestatic 32, 3) := by decide +kernel
theorem dX6_run_32 : decode cX6_run 32 = .ok (.ifCond .eq 13, 3) := by decide +kernel
theorem dX6_run_35 : decode cX6_run 35 = .ok (.aload_n 0, 1) := by decide +kernel
theorem dX6_run_36 : decode cX6_run 36 = .ok (.iload_n 1, 1) := by decide +kernel
theorem dX6_run_37 : decode cX6_run 37 = .ok (.iload_n 2, 1) := by decide +kernel
theorem dX6_run_38 : decode cX6_run 38 = .ok (.iload_n 3, 1) := by decide +kernel
theorem dX6_run_39 : decode cX6_run 39 = .ok (.invokevirtual 162, 3) := by decide +kernel
theorem dX6_run_42 : decode cX6_run 42 = .ok (.goto 6, 3) := by decide +kernel
theorem dX6_run_45 : decode cX6_run 45 = .ok (.sipush (-1002), 3) := by decide +kernel
theorem dX6_run_48 : decode cX6_run 48 = .ok (.ireturn, 1) := by decide +kernel
theorem dX6_seed_0 : decode cX6_seed 0 = .ok (.aload_n 0, 1) := by decide +kernel
theorem dX6_seed_1 : decode cX6_seed 1 = .ok (.getfield 16, 3) := by decide +kernel
theorem dX6_seed_4 : decode cX6_seed 4 = .ok (.ireturn, 1) := by decide +kernel
theorem dX6_howMany_0 : decode cX6_howMany 0 = .ok (.iload_n 1, 1) := by decide +kernel
theorem dX6_howMany_1 : decode cX6_howMany 1 = .ok (.tableswitch 76 0 7 #[47, 52, 52, 52, 52, 61, 66, 71], 47) := by decide +kernel
theorem dX6_howMany_48 : decode cX6_howMany 48 = .ok (.aload_n 0, 1) := by decide +kernel
theorem dX6_howMany_49 : decode cX6_howMany 49 = .ok (.getfield 36, 3) := by decide +kernel
theorem dX6_howMany_52 : decode cX6_howMany 52 = .ok (.ireturn, 1) := by decide +kernel
theorem dX6_howMany_53 : decode cX6_howMany 53 = .ok (.aload_n 0, 1) := by decide +kernel
theorem dX6_howMany_54 : decode cX6_howMany 54 = .ok (.getfield 20, 3) := by decide +kernel
theorem dX6_howMany_57 : decode cX6_howMany 57 = .ok (.iload_n 1, 1) := by decide +kernel
theorem dX6_howMany_58 : decode cX6_howMany 58 = .ok (.iconst 1, 1) := by decide +kernel
theorem dX6_howMany_59 : decode cX6_howMany 59 = .ok (.isub, 1) := by decide +kernel
theorem dX6_howMany_60 : decode cX6_howMany 60 = .ok (.iaload, 1) := by decide +kernel
theorem dX6_howMany_61 : decode cX6_howMany 61 = .ok (.ireturn, 1) := by decide +kernel
theorem dX6_howMany_62 : decode cX6_howMany 62 = .ok (.aload_n 0, 1) := by decide +kernel
theorem dX6_howMany_63 : decode cX6_howMany 63 = .ok (.getfield 131, 3) := by decide +kernel
theorem dX6_howMany_66 : decode cX6_howMany 66 = .ok (.ireturn, 1) := by decide +kernel
theorem dX6_howMany_67 : decode cX6_howMany 67 = .ok (.aload_n 0, 1) := by decide +kernel
theorem dX6_howMany_68 : decode cX6_howMany 68 = .ok (.getfield 134, 3) := by decide +kernel
theorem dX6_howMany_71 : decode cX6_howMany 71 = .ok (.ireturn, 1) := by decide +kernel
theorem dX6_howMany_72 : decode cX6_howMany 72 = .ok (.aload_n 0, 1) := by decide +kernel
theorem dX6_howMany_73 : decode cX6_howMany 73 = .ok (.getfield 62, 3) := by decide +kernel
theorem dX6_howMany_76 : decode cX6_howMany 76 = .ok (.ireturn, 1) := by decide +kernel
theorem dX6_howMany_77 : decode cX6_howMany 77 = .ok (.sipush (-1002), 3) := by decide +kernel
theorem dX6_howMany_80 : decode cX6_howMany 80 = .ok (.ireturn, 1) := by decide +kernel
set_option maxRecDepth 20000 in
theorem ggX6_count_X6_howMany : GoodIn wsX6_count wsX6_howMany := goodIn_r _ [5, 6, 7, 8, 9, 10, 11, 12, 13, 14, 15, 16, 17, 18, 19, 20, 21, 22, 23, 24, 25, 26, 27, 28, 29, 30, 31] (by decide +kernel) (by decide +kernel)
set_option maxRecDepth 20000 in
theorem gX6_count_X6_howMany : GoodIn wsX6_count (wsV RX6 166 RX6 yX6_howMany wsX6_howMany) := goodIn_app (goodIn_of _ (by decide +kernel)) ggX6_count_X6_howMany
theorem dX6_count_0 : decode cX6_count 0 = .ok (.aload_n 0, 1) := by decide +kernel
theorem dX6_count_1 : decode cX6_count 1 = .ok (.iload_n 1, 1) := by decide +kernel
theorem dX6_count_2 : decode cX6_count 2 = .ok (.invokevirtual 166, 3) := by decide +kernel
theorem dX6_count_5 : decode cX6_count 5 = .ok (.ireturn, 1) := by decide +kernel
theorem dX6_mix_0 : decode cX6_mix 0 = .ok (.aload_n 0, 1) := by decide +kernel
theorem dX6_mix_1 : decode cX6_mix 1 = .ok (.ldc2_w 169, 3) := by decide +kernel
theorem dX6_mix_4 : decode cX6_mix 4 = .ok (.aload_n 0, 1) := by decide +kernel
theorem dX6_mix_5 : decode cX6_mix 5 = .ok (.getfield 171, 3) := by decide +kernel
theorem dX6_mix_8 : decode cX6_mix 8 = .ok (.lmul, 1) := by decide +kernel
theorem dX6_mix_9 : decode cX6_mix 9 = .ok (.lload_n 1, 1) := by decide +kernel
theorem dX6_mix_10 : decode cX6_mix 10 = .ok (.ladd, 1) := by decide +kernel
theorem dX6_mix_11 : decode cX6_mix 11 = .ok (.putfield 171, 3) := by decide +kernel
theorem dX6_mix_14 : decode cX6_mix 14 = .ok (.return_, 1) := by decide +kernel
set_option maxRecDepth 20000 in
theorem ggX6_mixSums_X6_codeNow : GoodIn wsX6_mixSums wsX6_codeNow := goodIn_r _ [9, 4, 1, 10, 11, 12, 13, 27, 28, 29, 30, 31, 32, 33, 34, 35, 36, 37, 38, 39, 40, 41, 42, 43, 44, 45, 46, 47] (by decide +kernel) (by decide +kernel)
set_option maxRecDepth 20000 in
theorem gX6_mixSums_X6_codeNow : GoodIn wsX6_mixSums (wsV RX6 103 RX6 yX6_codeNow wsX6_codeNow) := goodIn_app (goodIn_of _ (by decide +kernel)) ggX6_mixSums_X6_codeNow
set_option maxRecDepth 20000 in
theorem ggX6_mixSums_X6_mix : GoodIn wsX6_mixSums wsX6_mix := goodIn_r _ [17, 18, 19, 27, 28, 29, 30, 31, 32, 33, 34, 35, 36, 37, 38, 39, 40, 41, 42, 43, 44, 45, 46, 47] (by decide +kernel) (by decide +kernel)
set_option maxRecDepth 20000 in
theorem gX6_mixSums_X6_mix : GoodIn wsX6_mixSums (wsV RX6 175 RX6 yX6_mix wsX6_mix) := goodIn_app (goodIn_of _ (by decide +kernel)) ggX6_mixSums_X6_mix
set_option maxRecDepth 20000 in
theorem ggX6_mixSums_X6_leadersNow : GoodIn wsX6_mixSums wsX6_leadersNow := goodIn_r _ [23, 3, 24, 25, 8, 26, 27, 28, 29, 30, 31, 32, 33, 34, 35, 36, 37, 38, 39, 40, 41, 42, 43, 44, 45, 46, 47] (by decide +kernel) (by decide +kernel)
set_option maxRecDepth 20000 in
theorem gX6_mixSums_X6_leadersNow : GoodIn wsX6_mixSums (wsV RX6 116 RX6 yX6_leadersNow wsX6_leadersNow) := goodIn_app (goodIn_of _ (by decide +kernel)) ggX6_mixSums_X6_leadersNow
theorem dX6_mixSums_0 : decode cX6_mixSums 0 = .ok (.iconst 0, 1) := by decide +kernel
theorem dX6_mixSums_1 : decode cX6_mixSums 1 = .ok (.istore_n 1, 1) := by decide +kernel
theorem dX6_mixSums_2 : decode cX6_mixSums 2 = .ok (.iload_n 1, 1) := by decide +kernel
theorem dX6_mixSums_3 : decode cX6_mixSums 3 = .ok (.bipush 7, 2) := by decide +kernel
theorem dX6_mixSums_5 : decode cX6_mixSums 5 = .ok (.if_icmp .ge 19, 3) := by decide +kernel
theorem dX6_mixSums_8 : decode cX6_mixSums 8 = .ok (.aload_n 0, 1) := by decide +kernel
theorem dX6_mixSums_9 : decode cX6_mixSums 9 = .ok (.aload_n 0, 1) := by decide +kernel
theorem dX6_mixSums_10 : decode cX6_mixSums 10 = .ok (.iload_n 1, 1) := by decide +kernel
theorem dX6_mixSums_11 : decode cX6_mixSums 11 = .ok (.invokevirtual 103, 3) := by decide +kernel
theorem dX6_mixSums_14 : decode cX6_mixSums 14 = .ok (.i2l, 1) := by decide +kernel
theorem dX6_mixSums_15 : decode cX6_mixSums 15 = .ok (.invokevirtual 175, 3) := by decide +kernel
theorem dX6_mixSums_18 : decode cX6_mixSums 18 = .ok (.iinc 1 1, 3) := by decide +kernel
theorem dX6_mixSums_21 : decode cX6_mixSums 21 = .ok (.goto (-19), 3) := by decide +kernel
theorem dX6_mixSums_24 : decode cX6_mixSums 24 = .ok (.iconst 0, 1) := by decide +kernel
theorem dX6_mixSums_25 : decode cX6_mixSums 25 = .ok (.istore_n 1, 1) := by decide +kernel
theorem dX6_mixSums_26 : decode cX6_mixSums 26 = .ok (.iload_n 1, 1) := by decide +kernel
theorem dX6_mixSums_27 : decode cX6_mixSums 27 = .ok (.aload_n 0, 1) := by decide +kernel
theorem dX6_mixSums_28 : decode cX6_mixSums 28 = .ok (.getfield 56, 3) := by decide +kernel
theorem dX6_mixSums_31 : decode cX6_mixSums 31 = .ok (.if_icmp .ge 20, 3) := by decide +kernel
theorem dX6_mixSums_34 : decode cX6_mixSums 34 = .ok (.aload_n 0, 1) := by decide +kernel
theorem dX6_mixSums_35 : decode cX6_mixSums 35 = .ok (.aload_n 0, 1) := by decide +kernel
theorem dX6_mixSums_36 : decode cX6_mixSums 36 = .ok (.getfield 13, 3) := by decide +kernel
theorem dX6_mixSums_39 : decode cX6_mixSums 39 = .ok (.iload_n 1, 1) := by decide +kernel
theorem dX6_mixSums_40 : decode cX6_mixSums 40 = .ok (.iaload, 1) := by decide +kernel
theorem dX6_mixSums_41 : decode cX6_mixSums 41 = .ok (.i2l, 1) := by decide +kernel
theorem dX6_mixSums_42 : decode cX6_mixSums 42 = .ok (.invokevirtual 175, 3) := by decide +kernel
theorem dX6_mixSums_45 : decode cX6_mixSums 45 = .ok (.iinc 1 1, 3) := by decide +kernel
theorem dX6_mixSums_48 : decode cX6_mixSums 48 = .ok (.goto (-22), 3) := by decide +kernel
theorem dX6_mixSums_51 : decode cX6_mixSums 51 = .ok (.iconst 0, 1) := by decide +kernel
theorem dX6_mixSums_52 : decode cX6_mixSums 52 = .ok (.istore_n 1, 1) := by decide +kernel
theorem dX6_mixSums_53 : decode cX6_mixSums 53 = .ok (.iload_n 1, 1) := by decide +kernel
theorem dX6_mixSums_54 : decode cX6_mixSums 54 = .ok (.iconst 1, 1) := by decide +kernel
theorem dX6_mixSums_55 : decode cX6_mixSums 55 = .ok (.aload_n 0, 1) := by decide +kernel
theorem dX6_mixSums_56 : decode cX6_mixSums 56 = .ok (.getfield 56, 3) := by decide +kernel
theorem dX6_mixSums_59 : decode cX6_mixSums 59 = .ok (.ishl, 1) := by decide +kernel
theorem dX6_mixSums_60 : decode cX6_mixSums 60 = .ok (.if_icmp .ge 20, 3) := by decide +kernel
theorem dX6_mixSums_63 : decode cX6_mixSums 63 = .ok (.aload_n 0, 1) := by decide +kernel
theorem dX6_mixSums_64 : decode cX6_mixSums 64 = .ok (.aload_n 0, 1) := by decide +kernel
theorem dX6_mixSums_65 : decode cX6_mixSums 65 = .ok (.getfield 29, 3) := by decide +kernel
theorem dX6_mixSums_68 : decode cX6_mixSums 68 = .ok (.iload_n 1, 1) := by decide +kernel
theorem dX6_mixSums_69 : decode cX6_mixSums 69 = .ok (.iaload, 1) := by decide +kernel
theorem dX6_mixSums_70 : decode cX6_mixSums 70 = .ok (.i2l, 1) := by decide +kernel
theorem dX6_mixSums_71 : decode cX6_mixSums 71 = .ok (.invokevirtual 175, 3) := by decide +kernel
theorem dX6_mixSums_74 : decode cX6_mixSums 74 = .ok (.iinc 1 1, 3) := by decide +kernel
theorem dX6_mixSums_77 : decode cX6_mixSums 77 = .ok (.goto (-24), 3) := by decide +kernel
theorem dX6_mixSums_80 : decode cX6_mixSums 80 = .ok (.iconst 0, 1) := by decide +kernel
theorem dX6_mixSums_81 : decode cX6_mixSums 81 = .ok (.istore_n 1, 1) := by decide +kernel
theorem dX6_mixSums_82 : decode cX6_mixSums 82 = .ok (.iload_n 1, 1) := by decide +kernel
theorem dX6_mixSums_83 : decode cX6_mixSums 83 = .ok (.aload_n 0, 1) := by decide +kernel
theorem dX6_mixSums_84 : decode cX6_mixSums 84 = .ok (.getfield 59, 3) := by decide +kernel
theorem dX6_mixSums_87 : decode cX6_mixSums 87 = .ok (.if_icmp .gt 19, 3) := by decide +kernel
theorem dX6_mixSums_90 : decode cX6_mixSums 90 = .ok (.aload_n 0, 1) := by decide +kernel
theorem dX6_mixSums_91 : decode cX6_mixSums 91 = .ok (.aload_n 0, 1) := by decide +kernel
theorem dX6_mixSums_92 : decode cX6_mixSums 92 = .ok (.iload_n 1, 1) := by decide +kernel
theorem dX6_mixSums_93 : decode cX6_mixSums 93 = .ok (.invokevirtual 116, 3) := by decide +kernel
theorem dX6_mixSums_96 : decode cX6_mixSums 96 = .ok (.i2l, 1) := by decide +kernel
theorem dX6_mixSums_97 : decode cX6_mixSums 97 = .ok (.invokevirtual 175, 3) := by decide +kernel
theorem dX6_mixSums_100 : decode cX6_mixSums 100 = .ok (.iinc 1 1, 3) := by decide +kernel
theorem dX6_mixSums_103 : decode cX6_mixSums 103 = .ok (.goto (-21), 3) := by decide +kernel
theorem dX6_mixSums_106 : decode cX6_mixSums 106 = .ok (.return_, 1) := by decide +kernel
set_option maxRecDepth 20000 in
theorem ggX6_digest_X6_isThere : GoodIn wsX6_digest wsX6_isThere := goodIn_r _ [10, 11, 47, 48, 49, 50, 51, 52, 53, 54, 55, 56, 57, 58, 59, 60, 61, 62, 63, 64, 65, 66, 67] (by decide +kernel) (by decide +kernel)
set_option maxRecDepth 20000 in
theorem gX6_digest_X6_isThere : GoodIn wsX6_digest (wsV RX6 99 RX6 yX6_isThere wsX6_isThere) := goodIn_app (goodIn_of _ (by decide +kernel)) ggX6_digest_X6_isThere
set_option maxRecDepth 20000 in
theorem ggX6_digest_X6_mixSums : GoodIn wsX6_digest wsX6_mixSums := goodIn_r _ [15, 11, 16, 17, 18, 19, 20, 21, 9, 22, 23, 24, 25, 26, 27, 28, 29, 30, 31, 2, 32, 33, 34, 35, 36, 37, 38, 47, 48, 49, 50, 51, 52, 53, 54, 55, 56, 57, 58, 59, 60, 61, 62, 63, 64, 65, 66, 67] (by decide +kernel) (by decide +kernel)
set_option maxRecDepth 20000 in
theorem gX6_digest_X6_mixSums : GoodIn wsX6_digest (wsV RX6 181 RX6 yX6_mixSums wsX6_mixSums) := goodIn_app (goodIn_of _ (by decide +kernel)) ggX6_digest_X6_mixSums
set_option maxRecDepth 20000 in
theorem ggX6_digest_X6_mix : GoodIn wsX6_digest wsX6_mix := goodIn_r _ [30, 31, 2, 47, 48, 49, 50, 51, 52, 53, 54, 55, 56, 57, 58, 59, 60, 61, 62, 63, 64, 65, 66, 67] (by decide +kernel) (by decide +kernel)
set_option maxRecDepth 20000 in
theorem gX6_digest_X6_mix : GoodIn wsX6_digest (wsV RX6 175 RX6 yX6_mix wsX6_mix) := goodIn_app (goodIn_of _ (by decide +kernel)) ggX6_digest_X6_mix
set_option maxRecDepth 20000 in
theorem ggX6_digest_X6_howMany : GoodIn wsX6_digest wsX6_howMany := goodIn_r _ [42, 4, 43, 44, 45, 46, 47, 48, 49, 50, 51, 52, 53, 54, 55, 56, 57, 58, 59, 60, 61, 62, 63, 64, 65, 66, 67] (by decide +kernel) (by decide +kernel)
set_option maxRecDepth 20000 in
theorem gX6_digest_X6_howMany : GoodIn wsX6_digest (wsV RX6 166 RX6 yX6_howMany wsX6_howMany) := goodIn_app (goodIn_of _ (by decide +kernel)) ggX6_digest_X6_howMany
theorem dX6_digest_0 : decode cX6_digest 0 = .ok (.aload_n 0, 1) := by decide +kernel
theorem dX6_digest_1 : decode cX6_digest 1 = .ok (.ldc2_w 179, 3) := by decide +kernel
theorem dX6_digest_4 : decode cX6_digest 4 = .ok (.putfield 171, 3) := by decide +kernel
theorem dX6_digest_7 : decode cX6_digest 7 = .ok (.aload_n 0, 1) := by decide +kernel
theorem dX6_digest_8 : decode cX6_digest 8 = .ok (.invokevirtual 99, 3) := by decide +kernel
theorem dX6_digest_11 : decode cX6_digest 11 = .ok (.ifCond .eq 7, 3) := by decide +kernel
theorem dX6_digest_14 : decode cX6_digest 14 = .ok (.aload_n 0, 1) := by decide +kernel
theorem dX6_digest_15 : decode cX6_digest 15 = .ok (.invokevirtual 181, 3) := by decide +kernel
theorem dX6_digest_18 : decode cX6_digest 18 = .ok (.aload_n 0, 1) := by decide +kernel
theorem dX6_digest_19 : decode cX6_digest 19 = .ok (.aload_n 0, 1) := by decide +kernel
theorem dX6_digest_20 : decode cX6_digest 20 = .ok (.getfield 16, 3) := by decide +kernel
theorem dX6_digest_23 : decode cX6_digest 23 = .ok (.i2l, 1) := by decide +kernel
theorem dX6_digest_24 : decode cX6_digest 24 = .ok (.invokevirtual 175, 3) := by decide +kernel
theorem dX6_digest_27 : decode cX6_digest 27 = .ok (.iconst 0, 1) := by decide +kernel
theorem dX6_digest_28 : decode cX6_digest 28 = .ok (.istore_n 1, 1) := by decide +kernel
theorem dX6_digest_29 : decode cX6_digest 29 = .ok (.iload_n 1, 1) := by decide +kernel
theorem dX6_digest_30 : decode cX6_digest 30 = .ok (.aload_n 0, 1) := by decide +kernel
theorem dX6_digest_31 : decode cX6_digest 31 = .ok (.getfield 36, 3) := by decide +kernel
theorem dX6_digest_34 : decode cX6_digest 34 = .ok (.if_icmp .ge 20, 3) := by decide +kernel
theorem dX6_digest_37 : decode cX6_digest 37 = .ok (.aload_n 0, 1) := by decide +kernel
theorem dX6_digest_38 : decode cX6_digest 38 = .ok (.aload_n 0, 1) := by decide +kernel
theorem dX6_digest_39 : decode cX6_digest 39 = .ok (.getfield 7, 3) := by decide +kernel
theorem dX6_digest_42 : decode cX6_digest 42 = .ok (.iload_n 1, 1) := by decide +kernel
theorem dX6_digest_43 : decode cX6_digest 43 = .ok (.iaload, 1) := by decide +kernel
theorem dX6_digest_44 : decode cX6_digest 44 = .ok (.i2l, 1) := by decide +kernel
theorem dX6_digest_45 : decode cX6_digest 45 = .ok (.invokevirtual 175, 3) := by decide +kernel
theorem dX6_digest_48 : decode cX6_digest 48 = .ok (.iinc 1 1, 3) := by decide +kernel
theorem dX6_digest_51 : decode cX6_digest 51 = .ok (.goto (-22), 3) := by decide +kernel
theorem dX6_digest_54 : decode cX6_digest 54 = .ok (.iconst 0, 1) := by decide +kernel
theorem dX6_digest_55 : decode cX6_digest 55 = .ok (.istore_n 1, 1) := by decide +kernel
theorem dX6_digest_56 : decode cX6_digest 56 = .ok (.iload_n 1, 1) := by decide +kernel
theorem dX6_digest_57 : decode cX6_digest 57 = .ok (.bipush 8, 2) := by decide +kernel
theorem dX6_digest_59 : decode cX6_digest 59 = .ok (.if_icmp .ge 19, 3) := by decide +kernel
theorem dX6_digest_62 : decode cX6_digest 62 = .ok (.aload_n 0, 1) := by decide +kernel
theorem dX6_digest_63 : decode cX6_digest 63 = .ok (.aload_n 0, 1) := by decide +kernel
theorem dX6_digest_64 : decode cX6_digest 64 = .ok (.iload_n 1, 1) := by decide +kernel
theorem dX6_digest_65 : decode cX6_digest 65 = .ok (.invokevirtual 166, 3) := by decide +kernel
theorem dX6_digest_68 : decode cX6_digest 68 = .ok (.i2l, 1) := by decide +kernel
theorem dX6_digest_69 : decode cX6_digest 69 = .ok (.invokevirtual 175, 3) := by decide +kernel
theorem dX6_digest_72 : decode cX6_digest 72 = .ok (.iinc 1 1, 3) := by decide +kernel
theorem dX6_digest_75 : decode cX6_digest 75 = .ok (.goto (-19), 3) := by decide +kernel
theorem dX6_digest_78 : decode cX6_digest 78 = .ok (.aload_n 0, 1) := by decide +kernel
theorem dX6_digest_79 : decode cX6_digest 79 = .ok (.getfield 171, 3) := by decide +kernel
theorem dX6_digest_82 : decode cX6_digest 82 = .ok (.lreturn, 1) := by decide +kernel
theorem dJ6_bitCount_0f7a4_0 : decode cJ6_bitCount_0f7a4 0 = .ok (.iload_n 0, 1) := by decide +kernel
theorem dJ6_bitCount_0f7a4_1 : decode cJ6_bitCount_0f7a4 1 = .ok (.iload_n 0, 1) := by decide +kernel
theorem dJ6_bitCount_0f7a4_2 : decode cJ6_bitCount_0f7a4 2 = .ok (.iconst 1, 1) := by decide +kernel
theorem dJ6_bitCount_0f7a4_3 : decode cJ6_bitCount_0f7a4 3 = .ok (.iushr, 1) := by decide +kernel
theorem dJ6_bitCount_0f7a4_4 : decode cJ6_bitCount_0f7a4 4 = .ok (.ldc_w 265, 3) := by decide +kernel
theorem dJ6_bitCount_0f7a4_7 : decode cJ6_bitCount_0f7a4 7 = .ok (.iand, 1) := by decide +kernel
theorem dJ6_bitCount_0f7a4_8 : decode cJ6_bitCount_0f7a4 8 = .ok (.isub, 1) := by decide +kernel
theorem dJ6_bitCount_0f7a4_9 : decode cJ6_bitCount_0f7a4 9 = .ok (.istore_n 0, 1) := by decide +kernel
theorem dJ6_bitCount_0f7a4_10 : decode cJ6_bitCount_0f7a4 10 = .ok (.iload_n 0, 1) := by decide +kernel
theorem dJ6_bitCount_0f7a4_11 : decode cJ6_bitCount_0f7a4 11 = .ok (.ldc_w 266, 3) := by decide +kernel
theorem dJ6_bitCount_0f7a4_14 : decode cJ6_bitCount_0f7a4 14 = .ok (.iand, 1) := by decide +kernel
theorem dJ6_bitCount_0f7a4_15 : decode cJ6_bitCount_0f7a4 15 = .ok (.iload_n 0, 1) := by decide +kernel
theorem dJ6_bitCount_0f7a4_16 : decode cJ6_bitCount_0f7a4 16 = .ok (.iconst 2, 1) := by decide +kernel
theorem dJ6_bitCount_0f7a4_17 : decode cJ6_bitCount_0f7a4 17 = .ok (.iushr, 1) := by decide +kernel
theorem dJ6_bitCount_0f7a4_18 : decode cJ6_bitCount_0f7a4 18 = .ok (.ldc_w 266, 3) := by decide +kernel
theorem dJ6_bitCount_0f7a4_21 : decode cJ6_bitCount_0f7a4 21 = .ok (.iand, 1) := by decide +kernel
theorem dJ6_bitCount_0f7a4_22 : decode cJ6_bitCount_0f7a4 22 = .ok (.iadd, 1) := by decide +kernel
theorem dJ6_bitCount_0f7a4_23 : decode cJ6_bitCount_0f7a4 23 = .ok (.istore_n 0, 1) := by decide +kernel
theorem dJ6_bitCount_0f7a4_24 : decode cJ6_bitCount_0f7a4 24 = .ok (.iload_n 0, 1) := by decide +kernel
theorem dJ6_bitCount_0f7a4_25 : decode cJ6_bitCount_0f7a4 25 = .ok (.iload_n 0, 1) := by decide +kernel
theorem dJ6_bitCount_0f7a4_26 : decode cJ6_bitCount_0f7a4 26 = .ok (.iconst 4, 1) := by decide +kernel
theorem dJ6_bitCount_0f7a4_27 : decode cJ6_bitCount_0f7a4 27 = .ok (.iushr, 1) := by decide +kernel
theorem dJ6_bitCount_0f7a4_28 : decode cJ6_bitCount_0f7a4 28 = .ok (.iadd, 1) := by decide +kernel
theorem dJ6_bitCount_0f7a4_29 : decode cJ6_bitCount_0f7a4 29 = .ok (.ldc_w 267, 3) := by decide +kernel
theorem dJ6_bitCount_0f7a4_32 : decode cJ6_bitCount_0f7a4 32 = .ok (.iand, 1) := by decide +kernel
theorem dJ6_bitCount_0f7a4_33 : decode cJ6_bitCount_0f7a4 33 = .ok (.istore_n 0, 1) := by decide +kernel
theorem dJ6_bitCount_0f7a4_34 : decode cJ6_bitCount_0f7a4 34 = .ok (.iload_n 0, 1) := by decide +kernel
theorem dJ6_bitCount_0f7a4_35 : decode cJ6_bitCount_0f7a4 35 = .ok (.iload_n 0, 1) := by decide +kernel
theorem dJ6_bitCount_0f7a4_36 : decode cJ6_bitCount_0f7a4 36 = .ok (.bipush 8, 2) := by decide +kernel
theorem dJ6_bitCount_0f7a4_38 : decode cJ6_bitCount_0f7a4 38 = .ok (.iushr, 1) := by decide +kernel
theorem dJ6_bitCount_0f7a4_39 : decode cJ6_bitCount_0f7a4 39 = .ok (.iadd, 1) := by decide +kernel
theorem dJ6_bitCount_0f7a4_40 : decode cJ6_bitCount_0f7a4 40 = .ok (.istore_n 0, 1) := by decide +kernel
theorem dJ6_bitCount_0f7a4_41 : decode cJ6_bitCount_0f7a4 41 = .ok (.iload_n 0, 1) := by decide +kernel
theorem dJ6_bitCount_0f7a4_42 : decode cJ6_bitCount_0f7a4 42 = .ok (.iload_n 0, 1) := by decide +kernel
theorem dJ6_bitCount_0f7a4_43 : decode cJ6_bitCount_0f7a4 43 = .ok (.bipush 16, 2) := by decide +kernel
theorem dJ6_bitCount_0f7a4_45 : decode cJ6_bitCount_0f7a4 45 = .ok (.iushr, 1) := by decide +kernel
theorem dJ6_bitCount_0f7a4_46 : decode cJ6_bitCount_0f7a4 46 = .ok (.iadd, 1) := by decide +kernel
theorem dJ6_bitCount_0f7a4_47 : decode cJ6_bitCount_0f7a4 47 = .ok (.istore_n 0, 1) := by decide +kernel
theorem dJ6_bitCount_0f7a4_48 : decode cJ6_bitCount_0f7a4 48 = .ok (.iload_n 0, 1) := by decide +kernel
theorem dJ6_bitCount_0f7a4_49 : decode cJ6_bitCount_0f7a4 49 = .ok (.bipush 63, 2) := by decide +kernel
theorem dJ6_bitCount_0f7a4_51 : decode cJ6_bitCount_0f7a4 51 = .ok (.iand, 1) := by decide +kernel
theorem dJ6_bitCount_0f7a4_52 : decode cJ6_bitCount_0f7a4 52 = .ok (.ireturn, 1) := by decide +kernel
theorem dJ9_max_7cf53_0 : decode cJ9_max_7cf53 0 = .ok (.iload_n 0, 1) := by decide +kernel
theorem dJ9_max_7cf53_1 : decode cJ9_max_7cf53 1 = .ok (.iload_n 1, 1) := by decide +kernel
theorem dJ9_max_7cf53_2 : decode cJ9_max_7cf53 2 = .ok (.if_icmp .lt 7, 3) := by decide +kernel
theorem dJ9_max_7cf53_5 : decode cJ9_max_7cf53 5 = .ok (.iload_n 0, 1) := by decide +kernel
theorem dJ9_max_7cf53_6 : decode cJ9_max_7cf53 6 = .ok (.goto 4, 3) := by decide +kernel
theorem dJ9_max_7cf53_9 : decode cJ9_max_7cf53 9 = .ok (.iload_n 1, 1) := by decide +kernel
theorem dJ9_max_7cf53_10 : decode cJ9_max_7cf53 10 = .ok (.ireturn, 1) := by decide +kernel
set_option maxRecDepth 20000 in
theorem ggL_law_X5_init : GoodIn wsL_law wsX5_init := goodIn_r _ [8, 9, 10, 11, 12, 13, 14, 15, 16, 17, 18, 19, 20, 21, 22, 23, 24, 25, 26, 27, 28, 29, 30, 31, 32, 33, 34, 35, 36, 37, 38, 39, 40, 41, 42, 43, 44, 45, 46, 47, 48, 49, 50, 51, 52, 53, 54, 55, 56, 57, 58, 59, 60, 61, 62, 63, 64, 65, 66, 67, 68, 69, 70, 71, 72, 643, 644, 617, 618, 619, 620, 621, 645, 646, 647, 648, 649, 650, 651, 652, 653, 654, 655, 656, 657, 658, 659, 660, 661, 662] (by decide +kernel) (by decide +kernel)
set_option maxRecDepth 20000 in
theorem gL_law_X5_init : GoodIn wsL_law (wsX5_init) := ggL_law_X5_init
set_option maxRecDepth 20000 in
theorem ggL_law_X6_init : GoodIn wsL_law wsX6_init := goodIn_r _ [75, 76, 10, 11, 36, 77, 78, 79, 80, 81, 82, 83, 622, 623, 624, 625, 626, 627, 628, 629, 630, 631, 632, 633, 634, 635, 636, 637, 638, 639, 640, 641, 642] (by decide +kernel) (by decide +kernel)
set_option maxRecDepth 20000 in
theorem gL_law_X6_init : GoodIn wsL_law (wsX6_init) := ggL_law_X6_init
set_option maxRecDepth 20000 in
theorem ggL_law_X5_letter : GoodIn wsL_law wsX5_letter := goodIn_r _ [87, 15, 88, 89, 90, 14, 91, 38, 37, 92, 93, 94, 95, 617, 618, 619, 620, 621, 643, 644] (by decide +kernel) (by decide +kernel)
set_option maxRecDepth 20000 in
theorem gL_law_X5_letter : GoodIn wsL_law (wsV RL 13 RX5 yX5_letter wsX5_letter) := goodIn_app (goodIn_of _ (by decide +kernel)) ggL_law_X5_letter
set_option maxRecDepth 20000 in
theorem ggL_law_X6_letter : GoodIn wsL_law wsX6_letter := goodIn_r _ [99, 100, 77, 101, 102, 5, 103, 622, 623, 624, 625, 626, 627, 628, 629, 630, 631, 632, 633, 634, 635, 636, 637, 638, 639, 640, 641, 642] (by decide +kernel) (by decide +kernel)
set_option maxRecDepth 20000 in
theorem gL_law_X6_letter : GoodIn wsL_law (wsV RL 17 RX6 yX6_letter wsX6_letter) := goodIn_app (goodIn_of _ (by decide +kernel)) ggL_law_X6_letter
set_option maxRecDepth 20000 in
theorem ggL_law_X5_blank : GoodIn wsL_law wsX5_blank := goodIn_r _ [107, 15, 92, 93, 94, 14, 95, 38, 108, 109, 110, 111, 617, 618, 619, 620, 621, 643, 644] (by decide +kernel) (by decide +kernel)
set_option maxRecDepth 20000 in
theorem gL_law_X5_blank : GoodIn wsL_law (wsV RL 18 RX5 yX5_blank wsX5_blank) := goodIn_app (goodIn_of _ (by decide +kernel)) ggL_law_X5_blank
set_option maxRecDepth 20000 in
theorem ggL_law_X6_blank : GoodIn wsL_law wsX6_blank := goodIn_r _ [115, 100, 622, 623, 624, 625, 626, 627, 628, 629, 630, 631, 632, 633, 634, 635, 636, 637, 638, 639, 640, 641, 642] (by decide +kernel) (by decide +kernel)
set_option maxRecDepth 20000 in
theorem gL_law_X6_blank : GoodIn wsL_law (wsV RL 22 RX6 yX6_blank wsX6_blank) := goodIn_app (goodIn_of _ (by decide +kernel)) ggL_law_X6_blank
set_option maxRecDepth 20000 in
theorem ggL_law_X5_fault : GoodIn wsL_law wsX5_fault := goodIn_r _ [119, 19, 15, 120, 121, 122, 18, 123, 124, 125, 126, 127, 43, 44, 45, 46, 128, 93, 94, 14, 95, 38, 129, 130, 131, 132, 37, 133, 134, 135, 136, 137, 138, 139, 140, 141, 142, 143, 144, 145, 146, 147, 148, 617, 618, 619, 620, 621, 645, 646, 647, 648, 643, 644] (by decide +kernel) (by decide +kernel)
set_option maxRecDepth 20000 in
theorem gL_law_X5_fault : GoodIn wsL_law (wsV RL 23 RX5 yX5_fault wsX5_fault) := goodIn_app (goodIn_of _ (by decide +kernel)) ggL_law_X5_fault
set_option maxRecDepth 20000 in
theorem ggL_law_X6_fault : GoodIn wsL_law wsX6_fault := goodIn_r _ [152, 153, 154, 155, 5, 156, 157, 158, 159, 100, 77, 160, 161, 162, 163, 81, 622, 623, 624, 625, 626, 627, 628, 629, 630, 631, 632, 633, 634, 635, 636, 637, 638, 639, 640, 641, 642] (by decide +kernel) (by decide +kernel)
set_option maxRecDepth 20000 in
theorem gL_law_X6_fault : GoodIn wsL_law (wsV RL 26 RX6 yX6_fault wsX6_fault) := goodIn_app (goodIn_of _ (by decide +kernel)) ggL_law_X6_fault
set_option maxRecDepth 20000 in
theorem ggL_law_X5_sums : GoodIn wsL_law wsX5_sums := goodIn_r _ [167, 19, 15, 23, 27, 120, 121, 122, 18, 123, 124, 125, 126, 127, 43, 44, 45, 46, 128, 93, 94, 14, 95, 38, 129, 130, 131, 132, 37, 133, 134, 135, 136, 137, 138, 139, 140, 141, 142, 143, 144, 145, 146, 147, 148, 92, 168, 169, 170, 171, 22, 172, 54, 55, 51, 57, 58, 173, 174, 175, 176, 177, 178, 179, 180, 181, 182, 183, 184, 185, 186, 187, 188, 52, 189, 190, 191, 192, 193, 194, 195, 196, 197, 198, 199, 200, 201, 202, 203, 204, 205, 206, 207, 208, 209, 210, 211, 212, 213, 214, 215, 216, 217, 218, 219, 220, 221, 222, 53, 59, 223, 224, 225, 226, 56, 227, 228, 229, 230, 231, 232, 233, 26, 234, 67, 108, 109, 110, 111, 235, 236, 237, 238, 617, 618, 619, 620, 621, 645, 646, 647, 648, 643, 644, 649, 650, 651, 652, 653, 654, 655, 656, 657, 658, 659, 660, 661] (by decide +kernel) (by decide +kernel)
set_option maxRecDepth 20000 in
theorem gL_law_X5_sums : GoodIn wsL_law (wsV RL 27 RX5 yX5_sums wsX5_sums) := goodIn_app (goodIn_of _ (by decide +kernel)) ggL_law_X5_sums
set_option maxRecDepth 20000 in
theorem ggL_law_X6_sums : GoodIn wsL_law wsX6_sums := goodIn_r _ [242, 100, 159, 158, 157, 243, 244, 78, 81, 245, 153, 154, 155, 5, 156, 77, 160, 161, 162, 163, 246, 247, 248, 249, 83, 82, 250, 251, 252, 253, 254, 255, 256, 257, 258, 259, 260, 261, 262, 263, 264, 265, 266, 267, 268, 269, 270, 271, 272, 273, 274, 275, 276, 622, 623, 624, 625, 626, 627, 628, 629, 630, 631, 632, 633, 634, 635, 636, 637, 638, 639, 640, 641, 642] (by decide +kernel) (by decide +kernel)
set_option maxRecDepth 20000 in
theorem gL_law_X6_sums : GoodIn wsL_law (wsV RL 30 RX6 yX6_sums wsX6_sums) := goodIn_app (goodIn_of _ (by decide +kernel)) ggL_law_X6_sums
set_option maxRecDepth 20000 in
theorem ggL_law_X5_code : GoodIn wsL_law wsX5_code := goodIn_r _ [280, 23, 281, 282, 283, 22, 284, 55, 235, 236, 237, 238, 285, 286, 287, 288, 54, 289, 290, 291, 292, 56, 293, 294, 295, 296, 57, 297, 298, 299, 300, 58, 301, 302, 303, 304, 59, 617, 618, 619, 620, 621, 649, 650, 651, 652, 653, 654, 655, 656, 657] (by decide +kernel) (by decide +kernel)
set_option maxRecDepth 20000 in
theorem gL_law_X5_code : GoodIn wsL_law (wsV RL 31 RX5 yX5_code wsX5_code) := goodIn_app (goodIn_of _ (by decide +kernel)) ggL_law_X5_code
set_option maxRecDepth 20000 in
theorem ggL_law_X6_code : GoodIn wsL_law wsX6_code := goodIn_r _ [308, 101, 102, 5, 103, 309, 310, 311, 312, 243, 313, 314, 315, 316, 244, 250, 251, 271, 272, 622, 623, 624, 625, 626, 627, 628, 629, 630, 631, 632, 633, 634, 635, 636, 637, 638, 639, 640, 641, 642] (by decide +kernel) (by decide +kernel)
set_option maxRecDepth 20000 in
theorem gL_law_X6_code : GoodIn wsL_law (wsV RL 34 RX6 yX6_code wsX6_code) := goodIn_app (goodIn_of _ (by decide +kernel)) ggL_law_X6_code
set_option maxRecDepth 20000 in
theorem ggL_law_X5_row : GoodIn wsL_law wsX5_row := goodIn_r _ [320, 23, 281, 282, 283, 22, 284, 55, 321, 322, 323, 324, 54, 51, 325, 326, 327, 328, 329, 617, 618, 619, 620, 621, 649, 650, 651, 652, 653, 654, 655, 656, 657] (by decide +kernel) (by decide +kernel)
set_option maxRecDepth 20000 in
theorem gL_law_X5_row : GoodIn wsL_law (wsV RL 35 RX5 yX5_row wsX5_row) := goodIn_app (goodIn_of _ (by decide +kernel)) ggL_law_X5_row
set_option maxRecDepth 20000 in
theorem ggL_law_X6_row : GoodIn wsL_law wsX6_row := goodIn_r _ [333, 243, 78, 309, 310, 311, 5, 312, 101, 102, 103, 622, 623, 624, 625, 626, 627, 628, 629, 630, 631, 632, 633, 634, 635, 636, 637, 638, 639, 640, 641, 642] (by decide +kernel) (by decide +kernel)
set_option maxRecDepth 20000 in
theorem gL_law_X6_row : GoodIn wsL_law (wsV RL 38 RX6 yX6_row wsX6_row) := goodIn_app (goodIn_of _ (by decide +kernel)) ggL_law_X6_row
set_option maxRecDepth 20000 in
theorem ggL_law_X5_syndrome : GoodIn wsL_law wsX5_syndrome := goodIn_r _ [337, 23, 281, 282, 283, 22, 284, 55, 338, 339, 340, 341, 189, 190, 191, 192, 342, 194, 195, 196, 54, 51, 197, 198, 199, 200, 201, 202, 203, 617, 618, 619, 620, 621, 649, 650, 651, 652, 653, 654, 655, 656, 657] (by decide +kernel) (by decide +kernel)
set_option maxRecDepth 20000 in
theorem gL_law_X5_syndrome : GoodIn wsL_law (wsV RL 39 RX5 yX5_syndrome wsX5_syndrome) := goodIn_app (goodIn_of _ (by decide +kernel)) ggL_law_X5_syndrome
set_option maxRecDepth 20000 in
theorem ggL_law_X6_syndrome : GoodIn wsL_law wsX6_syndrome := goodIn_r _ [346, 82, 309, 310, 311, 5, 312, 243, 347, 348, 349, 350, 252, 253, 254, 255, 244, 101, 102, 103, 622, 623, 624, 625, 626, 627, 628, 629, 630, 631, 632, 633, 634, 635, 636, 637, 638, 639, 640, 641, 642] (by decide +kernel) (by decide +kernel)
set_option maxRecDepth 20000 in
theorem gL_law_X6_syndrome : GoodIn wsL_law (wsV RL 42 RX6 yX6_syndrome wsX6_syndrome) := goodIn_app (goodIn_of _ (by decide +kernel)) ggL_law_X6_syndrome
set_option maxRecDepth 20000 in
theorem ggL_law_X5_leader : GoodIn wsL_law wsX5_leader := goodIn_r _ [354, 23, 281, 282, 283, 22, 284, 55, 355, 205, 206, 207, 52, 208, 209, 210, 211, 54, 356, 213, 214, 215, 204, 617, 618, 619, 620, 621, 649, 650, 651, 652, 653, 654, 655, 656, 657] (by decide +kernel) (by decide +kernel)
set_option maxRecDepth 20000 in
theorem gL_law_X5_leader : GoodIn wsL_law (wsV RL 43 RX5 yX5_leader wsX5_leader) := goodIn_app (goodIn_of _ (by decide +kernel)) ggL_law_X5_leader
set_option maxRecDepth 20000 in
theorem ggL_law_X6_leader : GoodIn wsL_law wsX6_leader := goodIn_r _ [360, 83, 309, 310, 311, 5, 312, 243, 361, 362, 363, 364, 101, 102, 103, 622, 623, 624, 625, 626, 627, 628, 629, 630, 631, 632, 633, 634, 635, 636, 637, 638, 639, 640, 641, 642] (by decide +kernel) (by decide +kernel)
set_option maxRecDepth 20000 in
theorem gL_law_X6_leader : GoodIn wsL_law (wsV RL 46 RX6 yX6_leader wsX6_leader) := goodIn_app (goodIn_of _ (by decide +kernel)) ggL_law_X6_leader
set_option maxRecDepth 20000 in
theorem ggL_law_X5_coset : GoodIn wsL_law wsX5_coset := goodIn_r _ [368, 23, 281, 282, 283, 22, 284, 55, 355, 205, 206, 207, 52, 208, 209, 210, 211, 54, 369, 370, 371, 372, 189, 190, 191, 192, 193, 194, 195, 196, 51, 197, 198, 199, 200, 201, 202, 203, 617, 618, 619, 620, 621, 649, 650, 651, 652, 653, 654, 655, 656, 657] (by decide +kernel) (by decide +kernel)
set_option maxRecDepth 20000 in
theorem gL_law_X5_coset : GoodIn wsL_law (wsV RL 47 RX5 yX5_coset wsX5_coset) := goodIn_app (goodIn_of _ (by decide +kernel)) ggL_law_X5_coset
set_option maxRecDepth 20000 in
theorem ggL_law_X6_coset : GoodIn wsL_law wsX6_coset := goodIn_r _ [376, 309, 310, 311, 5, 312, 243, 361, 362, 363, 364, 101, 102, 103, 377, 378, 379, 380, 82, 252, 253, 254, 255, 244, 622, 623, 624, 625, 626, 627, 628, 629, 630, 631, 632, 633, 634, 635, 636, 637, 638, 639, 640, 641, 642] (by decide +kernel) (by decide +kernel)
set_option maxRecDepth 20000 in
theorem gL_law_X6_coset : GoodIn wsL_law (wsV RL 51 RX6 yX6_coset wsX6_coset) := goodIn_app (goodIn_of _ (by decide +kernel)) ggL_law_X6_coset
set_option maxRecDepth 20000 in
theorem ggL_law_X5_leaders : GoodIn wsL_law wsX5_leaders := goodIn_r _ [384, 23, 281, 282, 283, 22, 284, 55, 385, 386, 387, 388, 53, 389, 390, 391, 392, 393, 617, 618, 619, 620, 621, 649, 650, 651, 652, 653, 654, 655, 656, 657] (by decide +kernel) (by decide +kernel)
set_option maxRecDepth 20000 in
theorem gL_law_X5_leaders : GoodIn wsL_law (wsV RL 52 RX5 yX5_leaders wsX5_leaders) := goodIn_app (goodIn_of _ (by decide +kernel)) ggL_law_X5_leaders
set_option maxRecDepth 20000 in
theorem ggL_law_X6_leaders : GoodIn wsL_law wsX6_leaders := goodIn_r _ [397, 244, 309, 310, 311, 5, 312, 243, 101, 102, 103, 398, 399, 400, 401, 83, 260, 261, 262, 622, 623, 624, 625, 626, 627, 628, 629, 630, 631, 632, 633, 634, 635, 636, 637, 638, 639, 640, 641, 642] (by decide +kernel) (by decide +kernel)
set_option maxRecDepth 20000 in
theorem gL_law_X6_leaders : GoodIn wsL_law (wsV RL 55 RX6 yX6_leaders wsX6_leaders) := goodIn_app (goodIn_of _ (by decide +kernel)) ggL_law_X6_leaders
set_option maxRecDepth 20000 in
theorem ggL_law_X5_better : GoodIn wsL_law wsX5_better := goodIn_r _ [405, 23, 281, 282, 283, 22, 284, 55, 321, 322, 323, 324, 54, 51, 338, 339, 340, 341, 189, 190, 191, 192, 406, 407, 408, 409, 57, 329, 227, 228, 229, 230, 197, 198, 199, 200, 201, 202, 203, 193, 194, 195, 196, 617, 618, 619, 620, 621, 649, 650, 651, 652, 653, 654, 655, 656, 657] (by decide +kernel) (by decide +kernel)
set_option maxRecDepth 20000 in
theorem gL_law_X5_better : GoodIn wsL_law (wsV RL 56 RX5 yX5_better wsX5_better) := goodIn_app (goodIn_of _ (by decide +kernel)) ggL_law_X5_better
set_option maxRecDepth 20000 in
theorem ggL_law_X6_better : GoodIn wsL_law wsX6_better := goodIn_r _ [413, 243, 309, 310, 311, 5, 312, 101, 102, 103, 347, 348, 349, 350, 252, 253, 254, 255, 244, 414, 415, 416, 417, 78, 251, 263, 264, 265, 266, 256, 257, 258, 259, 260, 261, 262, 418, 419, 420, 421, 622, 623, 624, 625, 626, 627, 628, 629, 630, 631, 632, 633, 634, 635, 636, 637, 638, 639, 640, 641, 642] (by decide +kernel) (by decide +kernel)
set_option maxRecDepth 20000 in
theorem gL_law_X6_better : GoodIn wsL_law (wsV RL 59 RX6 yX6_better wsX6_better) := goodIn_app (goodIn_of _ (by decide +kernel)) ggL_law_X6_better
set_option maxRecDepth 20000 in
theorem ggL_law_X5_send : GoodIn wsL_law wsX5_send := goodIn_r _ [425, 23, 281, 282, 283, 22, 284, 55, 338, 339, 340, 341, 189, 190, 191, 192, 426, 427, 428, 2, 429, 27, 430, 431, 432, 433, 58, 434, 435, 436, 437, 193, 194, 195, 196, 54, 51, 197, 198, 199, 200, 201, 202, 203, 212, 213, 214, 215, 52, 204, 205, 206, 207, 208, 209, 210, 211, 235, 236, 237, 238, 289, 290, 291, 292, 56, 438, 439, 440, 26, 441, 64, 65, 66, 617, 618, 619, 620, 621, 649, 650, 651, 652, 653, 654, 655, 656, 657, 658, 659, 660, 661] (by decide +kernel) (by decide +kernel)
set_option maxRecDepth 20000 in
theorem gL_law_X5_send : GoodIn wsL_law (wsV RL 60 RX5 yX5_send wsX5_send) := goodIn_app (goodIn_of _ (by decide +kernel)) ggL_law_X5_send
set_option maxRecDepth 20000 in
theorem ggL_law_X6_send : GoodIn wsL_law wsX6_send := goodIn_r _ [445, 309, 310, 311, 5, 312, 243, 347, 348, 349, 350, 252, 253, 254, 255, 244, 101, 102, 103, 446, 447, 448, 449, 80, 450, 250, 451, 452, 453, 454, 455, 271, 456, 457, 458, 459, 83, 82, 260, 261, 262, 622, 623, 624, 625, 626, 627, 628, 629, 630, 631, 632, 633, 634, 635, 636, 637, 638, 639, 640, 641, 642] (by decide +kernel) (by decide +kernel)
set_option maxRecDepth 20000 in
theorem gL_law_X6_send : GoodIn wsL_law (wsV RL 63 RX6 yX6_send wsX6_send) := goodIn_app (goodIn_of _ (by decide +kernel)) ggL_law_X6_send
set_option maxRecDepth 20000 in
theorem ggL_law_X5_plain : GoodIn wsL_law wsX5_plain := goodIn_r _ [463, 23, 281, 282, 283, 22, 284, 55, 338, 339, 340, 341, 189, 190, 191, 192, 430, 431, 432, 433, 58, 434, 435, 436, 437, 193, 194, 195, 196, 54, 51, 197, 198, 199, 200, 201, 202, 203, 212, 213, 214, 215, 52, 204, 205, 206, 207, 208, 209, 210, 211, 464, 617, 618, 619, 620, 621, 649, 650, 651, 652, 653, 654, 655, 656, 657] (by decide +kernel) (by decide +kernel)
set_option maxRecDepth 20000 in
theorem gL_law_X5_plain : GoodIn wsL_law (wsV RL 64 RX5 yX5_plain wsX5_plain) := goodIn_app (goodIn_of _ (by decide +kernel)) ggL_law_X5_plain
set_option maxRecDepth 20000 in
theorem ggL_law_X6_plain : GoodIn wsL_law wsX6_plain := goodIn_r _ [468, 309, 310, 311, 5, 312, 243, 347, 348, 349, 350, 252, 253, 254, 255, 244, 101, 102, 103, 452, 453, 454, 455, 271, 456, 457, 458, 459, 83, 82, 260, 261, 262, 622, 623, 624, 625, 626, 627, 628, 629, 630, 631, 632, 633, 634, 635, 636, 637, 638, 639, 640, 641, 642] (by decide +kernel) (by decide +kernel)
set_option maxRecDepth 20000 in
theorem gL_law_X6_plain : GoodIn wsL_law (wsV RL 68 RX6 yX6_plain wsX6_plain) := goodIn_app (goodIn_of _ (by decide +kernel)) ggL_law_X6_plain
set_option maxRecDepth 20000 in
theorem ggL_law_X5_share : GoodIn wsL_law wsX5_share := goodIn_r _ [472, 23, 281, 282, 283, 22, 284, 55, 473, 474, 475, 476, 477, 339, 340, 341, 189, 190, 191, 192, 478, 479, 480, 481, 193, 194, 195, 196, 54, 51, 197, 198, 199, 200, 201, 202, 203, 289, 290, 291, 292, 56, 482, 617, 618, 619, 620, 621, 649, 650, 651, 652, 653, 654, 655, 656, 657] (by decide +kernel) (by decide +kernel)
set_option maxRecDepth 20000 in
theorem gL_law_X5_share : GoodIn wsL_law (wsV RL 69 RX5 yX5_share wsX5_share) := goodIn_app (goodIn_of _ (by decide +kernel)) ggL_law_X5_share
set_option maxRecDepth 20000 in
theorem ggL_law_X6_share : GoodIn wsL_law wsX6_share := goodIn_r _ [486, 250, 309, 310, 311, 5, 312, 243, 487, 488, 489, 490, 347, 348, 349, 350, 252, 253, 254, 255, 244, 101, 102, 103, 260, 261, 262, 491, 492, 493, 494, 82, 622, 623, 624, 625, 626, 627, 628, 629, 630, 631, 632, 633, 634, 635, 636, 637, 638, 639, 640, 641, 642] (by decide +kernel) (by decide +kernel)
set_option maxRecDepth 20000 in
theorem gL_law_X6_share : GoodIn wsL_law (wsV RL 72 RX6 yX6_share wsX6_share) := goodIn_app (goodIn_of _ (by decide +kernel)) ggL_law_X6_share
set_option maxRecDepth 20000 in
theorem ggL_law_X5_shared : GoodIn wsL_law wsX5_shared := goodIn_r _ [498, 23, 281, 282, 283, 22, 284, 55, 473, 474, 475, 476, 477, 339, 340, 341, 189, 190, 191, 192, 338, 499, 500, 501, 502, 503, 479, 480, 481, 193, 194, 195, 196, 54, 51, 197, 198, 199, 200, 201, 202, 203, 434, 435, 436, 437, 212, 213, 214, 215, 52, 204, 205, 206, 207, 208, 209, 210, 211, 464, 617, 618, 619, 620, 621, 649, 650, 651, 652, 653, 654, 655, 656, 657] (by decide +kernel) (by decide +kernel)
set_option maxRecDepth 20000 in
theorem gL_law_X5_shared : GoodIn wsL_law (wsV RL 73 RX5 yX5_shared wsX5_shared) := goodIn_app (goodIn_of _ (by decide +kernel)) ggL_law_X5_shared
set_option maxRecDepth 20000 in
theorem ggL_law_X6_shared : GoodIn wsL_law wsX6_shared := goodIn_r _ [507, 309, 310, 311, 5, 312, 243, 487, 488, 489, 490, 347, 348, 349, 350, 252, 253, 254, 255, 244, 101, 102, 103, 508, 509, 510, 511, 82, 491, 492, 493, 494, 456, 457, 458, 459, 83, 622, 623, 624, 625, 626, 627, 628, 629, 630, 631, 632, 633, 634, 635, 636, 637, 638, 639, 640, 641, 642] (by decide +kernel) (by decide +kernel)
set_option maxRecDepth 20000 in
theorem gL_law_X6_shared : GoodIn wsL_law (wsV RL 77 RX6 yX6_shared wsX6_shared) := goodIn_app (goodIn_of _ (by decide +kernel)) ggL_law_X6_shared
set_option maxRecDepth 20000 in
theorem ggL_law_X5_run : GoodIn wsL_law wsX5_run := goodIn_r _ [515, 23, 31, 281, 282, 283, 22, 284, 55, 516, 517, 518, 30, 519, 72, 235, 236, 237, 238, 520, 521, 522, 523, 524, 525, 526, 527, 528, 529, 2, 530, 426, 427, 428, 429, 27, 430, 431, 432, 433, 58, 434, 435, 436, 437, 193, 194, 195, 196, 54, 51, 197, 198, 199, 200, 201, 202, 203, 212, 213, 214, 215, 52, 204, 205, 206, 207, 208, 209, 210, 211, 289, 290, 291, 292, 56, 438, 439, 440, 26, 441, 64, 65, 66, 617, 618, 619, 620, 621, 649, 650, 651, 652, 653, 654, 655, 656, 657, 662, 658, 659, 660, 661] (by decide +kernel) (by decide +kernel)
set_option maxRecDepth 20000 in
theorem gL_law_X5_run : GoodIn wsL_law (wsV RL 78 RX5 yX5_run wsX5_run) := goodIn_app (goodIn_of _ (by decide +kernel)) ggL_law_X5_run
set_option maxRecDepth 20000 in
theorem ggL_law_X6_run : GoodIn wsL_law wsX6_run := goodIn_r _ [534, 309, 310, 311, 5, 312, 243, 101, 102, 103, 535, 536, 537, 538, 79, 244, 252, 253, 254, 255, 539, 540, 541, 542, 543, 544, 545, 546, 446, 447, 448, 449, 80, 450, 250, 451, 452, 453, 454, 455, 271, 456, 457, 458, 459, 83, 82, 260, 261, 262, 622, 623, 624, 625, 626, 627, 628, 629, 630, 631, 632, 633, 634, 635, 636, 637, 638, 639, 640, 641, 642] (by decide +kernel) (by decide +kernel)
set_option maxRecDepth 20000 in
theorem gL_law_X6_run : GoodIn wsL_law (wsV RL 81 RX6 yX6_run wsX6_run) := goodIn_app (goodIn_of _ (by decide +kernel)) ggL_law_X6_run
set_option maxRecDepth 20000 in
theorem ggL_law_X5_seed : GoodIn wsL_law wsX5_seed := goodIn_r _ [550, 31, 551, 552, 553, 30, 554, 72, 617, 618, 619, 620, 621, 662] (by decide +kernel) (by decide +kernel)
set_option maxRecDepth 20000 in
theorem gL_law_X5_seed : GoodIn wsL_law (wsV RL 82 RX5 yX5_seed wsX5_seed) := goodIn_app (goodIn_of _ (by decide +kernel)) ggL_law_X5_seed
set_option maxRecDepth 20000 in
theorem ggL_law_X6_seed : GoodIn wsL_law wsX6_seed := goodIn_r _ [558, 79, 622, 623, 624, 625, 626, 627, 628, 629, 630, 631, 632, 633, 634, 635, 636, 637, 638, 639, 640, 641, 642] (by decide +kernel) (by decide +kernel)
set_option maxRecDepth 20000 in
theorem gL_law_X6_seed : GoodIn wsL_law (wsV RL 85 RX6 yX6_seed wsX6_seed) := goodIn_app (goodIn_of _ (by decide +kernel)) ggL_law_X6_seed
set_option maxRecDepth 20000 in
theorem ggL_law_X5_count : GoodIn wsL_law wsX5_count := goodIn_r _ [562, 15, 27, 92, 93, 94, 14, 95, 38, 563, 564, 565, 26, 566, 65, 567, 568, 569, 570, 66, 571, 572, 573, 574, 67, 575, 576, 577, 578, 64, 617, 618, 619, 620, 621, 643, 644, 658, 659, 660, 661] (by decide +kernel) (by decide +kernel)
set_option maxRecDepth 20000 in
theorem gL_law_X5_count : GoodIn wsL_law (wsV RL 86 RX5 yX5_count wsX5_count) := goodIn_app (goodIn_of _ (by decide +kernel)) ggL_law_X5_count
set_option maxRecDepth 20000 in
theorem ggL_law_X6_count : GoodIn wsL_law wsX6_count := goodIn_r _ [582, 583, 584, 585, 5, 586, 100, 80, 450, 451, 245, 622, 623, 624, 625, 626, 627, 628, 629, 630, 631, 632, 633, 634, 635, 636, 637, 638, 639, 640, 641, 642] (by decide +kernel) (by decide +kernel)
set_option maxRecDepth 20000 in
theorem gL_law_X6_count : GoodIn wsL_law (wsV RL 89 RX6 yX6_count wsX6_count) := goodIn_app (goodIn_of _ (by decide +kernel)) ggL_law_X6_count
set_option maxRecDepth 20000 in
theorem ggL_law_X5_digest : GoodIn wsL_law wsX5_digest := goodIn_r _ [590, 591, 23, 592, 15, 281, 282, 283, 22, 284, 55, 593, 594, 595, 2, 596, 597, 278, 279, 280, 235, 236, 237, 238, 285, 286, 287, 288, 54, 289, 290, 291, 292, 56, 293, 294, 295, 296, 57, 297, 298, 299, 300, 58, 301, 302, 303, 304, 59, 325, 326, 327, 328, 51, 329, 322, 323, 324, 598, 209, 210, 211, 356, 213, 214, 215, 52, 204, 205, 206, 207, 208, 389, 390, 391, 392, 53, 393, 386, 387, 388, 599, 548, 549, 550, 31, 551, 552, 553, 30, 554, 72, 92, 93, 94, 14, 95, 38, 600, 130, 131, 132, 37, 601, 560, 561, 562, 27, 563, 564, 565, 26, 566, 65, 567, 568, 569, 570, 66, 571, 572, 573, 574, 67, 575, 576, 577, 578, 64, 617, 618, 619, 620, 621, 649, 650, 651, 652, 653, 654, 655, 656, 657, 662, 643, 644, 658, 659, 660, 661] (by decide +kernel) (by decide +kernel)
set_option maxRecDepth 20000 in
theorem gL_law_X5_digest : GoodIn wsL_law (wsV RL 90 RX5 yX5_digest wsX5_digest) := goodIn_app (goodIn_of _ (by decide +kernel)) ggL_law_X5_digest
set_option maxRecDepth 20000 in
theorem ggL_law_X6_digest : GoodIn wsL_law wsX6_digest := goodIn_r _ [605, 606, 607, 79, 100, 77, 309, 310, 311, 5, 312, 243, 608, 609, 610, 611, 78, 83, 244, 313, 314, 315, 316, 250, 251, 271, 272, 612, 613, 614, 615, 616, 398, 399, 400, 401, 260, 261, 262, 583, 584, 585, 586, 80, 450, 451, 245, 622, 623, 624, 625, 626, 627, 628, 629, 630, 631, 632, 633, 634, 635, 636, 637, 638, 639, 640, 641, 642] (by decide +kernel) (by decide +kernel)
set_option maxRecDepth 20000 in
theorem gL_law_X6_digest : GoodIn wsL_law (wsV RL 94 RX6 yX6_digest wsX6_digest) := goodIn_app (goodIn_of _ (by decide +kernel)) ggL_law_X6_digest
theorem dL_law_0 : decode cL_law 0 = .ok (.new 7, 3) := by decide +kernel
theorem dL_law_3 : decode cL_law 3 = .ok (.dup, 1) := by decide +kernel
theorem dL_law_4 : decode cL_law 4 = .ok (.invokespecial 9, 3) := by decide +kernel
theorem dL_law_7 : decode cL_law 7 = .ok (.astore_n 1, 1) := by decide +kernel
theorem dL_law_8 : decode cL_law 8 = .ok (.new 10, 3) := by decide +kernel
theorem dL_law_11 : decode cL_law 11 = .ok (.dup, 1) := by decide +kernel
theorem dL_law_12 : decode cL_law 12 = .ok (.invokespecial 12, 3) := by decide +kernel
theorem dL_law_15 : decode cL_law 15 = .ok (.astore_n 2, 1) := by decide +kernel
theorem dL_law_16 : decode cL_law 16 = .ok (.iconst 0, 1) := by decide +kernel
theorem dL_law_17 : decode cL_law 17 = .ok (.istore_n 3, 1) := by decide +kernel
theorem dL_law_18 : decode cL_law 18 = .ok (.iload_n 3, 1) := by decide +kernel
theorem dL_law_19 : decode cL_law 19 = .ok (.aload_n 0, 1) := by decide +kernel
theorem dL_law_20 : decode cL_law 20 = .ok (.arraylength, 1) := by decide +kernel
theorem dL_law_21 : decode cL_law 21 = .ok (.bipush 6, 2) := by decide +kernel
theorem dL_law_23 : decode cL_law 23 = .ok (.isub, 1) := by decide +kernel
theorem dL_law_24 : decode cL_law 24 = .ok (.if_icmp .gt 640, 3) := by decide +kernel
theorem dL_law_27 : decode cL_law 27 = .ok (.aload_n 0, 1) := by decide +kernel
theorem dL_law_28 : decode cL_law 28 = .ok (.iload_n 3, 1) := by decide +kernel
theorem dL_law_29 : decode cL_law 29 = .ok (.iaload, 1) := by decide +kernel
theorem dL_law_30 : decode cL_law 30 = .ok (.bipush 31, 2) := by decide +kernel
theorem dL_law_32 : decode cL_law 32 = .ok (.iand, 1) := by decide +kernel
theorem dL_law_33 : decode cL_law 33 = .ok (.tableswitch 625 0 18 #[91, 114, 127, 140, 153, 176, 199, 222, 245, 278, 301, 334, 367, 410, 453, 532, 575, 588, 611], 91) := by decide +kernel
theorem dL_law_124 : decode cL_law 124 = .ok (.aload_n 1, 1) := by decide +kernel
theorem dL_law_125 : decode cL_law 125 = .ok (.aload_n 0, 1) := by decide +kernel
theorem dL_law_126 : decode cL_law 126 = .ok (.iload_n 3, 1) := by decide +kernel
theorem dL_law_127 : decode cL_law 127 = .ok (.iconst 1, 1) := by decide +kernel
theorem dL_law_128 : decode cL_law 128 = .ok (.iadd, 1) := by decide +kernel
theorem dL_law_129 : decode cL_law 129 = .ok (.iaload, 1) := by decide +kernel
theorem dL_law_130 : decode cL_law 130 = .ok (.invokevirtual 13, 3) := by decide +kernel
theorem dL_law_133 : decode cL_law 133 = .ok (.aload_n 2, 1) := by decide +kernel
theorem dL_law_134 : decode cL_law 134 = .ok (.aload_n 0, 1) := by decide +kernel
theorem dL_law_135 : decode cL_law 135 = .ok (.iload_n 3, 1) := by decide +kernel
theorem dL_law_136 : decode cL_law 136 = .ok (.iconst 1, 1) := by decide +kernel
theorem dL_law_137 : decode cL_law 137 = .ok (.iadd, 1) := by decide +kernel
theorem dL_law_138 : decode cL_law 138 = .ok (.iaload, 1) := by decide +kernel
theorem dL_law_139 : decode cL_law 139 = .ok (.invokevirtual 17, 3) := by decide +kernel
theorem dL_law_142 : decode cL_law 142 = .ok (.if_icmp .eq 516, 3) := by decide +kernel
theorem dL_law_145 : decode cL_law 145 = .ok (.iconst 0, 1) := by decide +kernel
theorem dL_law_146 : decode cL_law 146 = .ok (.ireturn, 1) := by decide +kernel
theorem dL_law_147 : decode cL_law 147 = .ok (.aload_n 1, 1) := by decide +kernel
theorem dL_law_148 : decode cL_law 148 = .ok (.invokevirtual 18, 3) := by decide +kernel
theorem dL_law_151 : decode cL_law 151 = .ok (.aload_n 2, 1) := by decide +kernel
theorem dL_law_152 : decode cL_law 152 = .ok (.invokevirtual 22, 3) := by decide +kernel
theorem dL_law_155 : decode cL_law 155 = .ok (.if_icmp .eq 503, 3) := by decide +kernel
theorem dL_law_158 : decode cL_law 158 = .ok (.iconst 0, 1) := by decide +kernel
theorem dL_law_159 : decode cL_law 159 = .ok (.ireturn, 1) := by decide +kernel
theorem dL_law_160 : decode cL_law 160 = .ok (.aload_n 1, 1) := by decide +kernel
theorem dL_law_161 : decode cL_law 161 = .ok (.invokevirtual 23, 3) := by decide +kernel
theorem dL_law_164 : decode cL_law 164 = .ok (.aload_n 2, 1) := by decide +kernel
theorem dL_law_165 : decode cL_law 165 = .ok (.invokevirtual 26, 3) := by decide +kernel
theorem dL_law_168 : decode cL_law 168 = .ok (.if_icmp .eq 490, 3) := by decide +kernel
theorem dL_law_171 : decode cL_law 171 = .ok (.iconst 0, 1) := by decide +kernel
theorem dL_law_172 : decode cL_law 172 = .ok (.ireturn, 1) := by decide +kernel
theorem dL_law_173 : decode cL_law 173 = .ok (.aload_n 1, 1) := by decide +kernel
theorem dL_law_174 : decode cL_law 174 = .ok (.invokevirtual 27, 3) := by decide +kernel
theorem dL_law_177 : decode cL_law 177 = .ok (.aload_n 2, 1) := by decide +kernel
theorem dL_law_178 : decode cL_law 178 = .ok (.invokevirtual 30, 3) := by decide +kernel
theorem dL_law_181 : decode cL_law 181 = .ok (.if_icmp .eq 477, 3) := by decide +kernel
theorem dL_law_184 : decode cL_law 184 = .ok (.iconst 0, 1) := by decide +kernel
theorem dL_law_185 : decode cL_law 185 = .ok (.ireturn, 1) := by decide +kernel
theorem dL_law_186 : decode cL_law 186 = .ok (.aload_n 1, 1) := by decide +kernel
theorem dL_law_187 : decode cL_law 187 = .ok (.aload_n 0, 1) := by decide +kernel
theorem dL_law_188 : decode cL_law 188 = .ok (.iload_n 3, 1) := by decide +kernel
theorem dL_law_189 : decode cL_law 189 = .ok (.iconst 1, 1) := by decide +kernel
theorem dL_law_190 : decode cL_law 190 = .ok (.iadd, 1) := by decide +kernel
theorem dL_law_191 : decode cL_law 191 = .ok (.iaload, 1) := by decide +kernel
theorem dL_law_192 : decode cL_law 192 = .ok (.invokevirtual 31, 3) := by decide +kernel
theorem dL_law_195 : decode cL_law 195 = .ok (.aload_n 2, 1) := by decide +kernel
theorem dL_law_196 : decode cL_law 196 = .ok (.aload_n 0, 1) := by decide +kernel
theorem dL_law_197 : decode cL_law 197 = .ok (.iload_n 3, 1) := by decide +kernel
theorem dL_law_198 : decode cL_law 198 = .ok (.iconst 1, 1) := by decide +kernel
theorem dL_law_199 : decode cL_law 199 = .ok (.iadd, 1) := by decide +kernel
theorem dL_law_200 : decode cL_law 200 = .ok (.iaload, 1) := by decide +kernel
theorem dL_law_201 : decode cL_law 201 = .ok (.invokevirtual 34, 3) := by decide +kernel
theorem dL_law_204 : decode cL_law 204 = .ok (.if_icmp .eq 454, 3) := by decide +kernel
theorem dL_law_207 : decode cL_law 207 = .ok (.iconst 0, 1) := by decide +kernel
theorem dL_law_208 : decode cL_law 208 = .ok (.ireturn, 1) := by decide +kernel
theorem dL_law_209 : decode cL_law 209 = .ok (.aload_n 1, 1) := by decide +kernel
theorem dL_law_210 : decode cL_law 210 = .ok (.aload_n 0, 1) := by decide +kernel
theorem dL_law_211 : decode cL_law 211 = .ok (.iload_n 3, 1) := by decide +kernel
theorem dL_law_212 : decode cL_law 212 = .ok (.iconst 1, 1) := by decide +kernel
theorem dL_law_213 : decode cL_law 213 = .ok (.iadd, 1) := by decide +kernel
theorem dL_law_214 : decode cL_law 214 = .ok (.iaload, 1) := by decide +kernel
theorem dL_law_215 : decode cL_law 215 = .ok (.invokevirtual 35, 3) := by decide +kernel
theorem dL_law_218 : decode cL_law 218 = .ok (.aload_n 2, 1) := by decide +kernel
theorem dL_law_219 : decode cL_law 219 = .ok (.aload_n 0, 1) := by decide +kernel
theorem dL_law_220 : decode cL_law 220 = .ok (.iload_n 3, 1) := by decide +kernel
theorem dL_law_221 : decode cL_law 221 = .ok (.iconst 1, 1) := by decide +kernel
theorem dL_law_222 : decode cL_law 222 = .ok (.iadd, 1) := by decide +kernel
theorem dL_law_223 : decode cL_law 223 = .ok (.iaload, 1) := by decide +kernel
theorem dL_law_224 : decode cL_law 224 = .ok (.invokevirtual 38, 3) := by decide +kernel
theorem dL_law_227 : decode cL_law 227 = .ok (.if_icmp .eq 431, 3) := by decide +kernel
theorem dL_law_230 : decode cL_law 230 = .ok (.iconst 0, 1) := by decide +kernel
theorem dL_law_231 : decode cL_law 231 = .ok (.ireturn, 1) := by decide +kernel
theorem dL_law_232 : decode cL_law 232 = .ok (.aload_n 1, 1) := by decide +kernel
theorem dL_law_233 : decode cL_law 233 = .ok (.aload_n 0, 1) := by decide +kernel
theorem dL_law_234 : decode cL_law 234 = .ok (.iload_n 3, 1) := by decide +kernel
theorem dL_law_235 : decode cL_law 235 = .ok (.iconst 1, 1) := by decide +kernel
theorem dL_law_236 : decode cL_law 236 = .ok (.iadd, 1) := by decide +kernel
theorem dL_law_237 : decode cL_law 237 = .ok (.iaload, 1) := by decide +kernel
theorem dL_law_238 : decode cL_law 238 = .ok (.invokevirtual 39, 3) := by decide +kernel
theorem dL_law_241 : decode cL_law 241 = .ok (.aload_n 2, 1) := by decide +kernel
theorem dL_law_242 : decode cL_law 242 = .ok (.aload_n 0, 1) := by decide +kernel
theorem dL_law_243 : decode cL_law 243 = .ok (.iload_n 3, 1) := by decide +kernel
theorem dL_law_244 : decode cL_law 244 = .ok (.iconst 1, 1) := by decide +kernel
theorem dL_law_245 : decode cL_law 245 = .ok (.iadd, 1) := by decide +kernel
theorem dL_law_246 : decode cL_law 246 = .ok (.iaload, 1) := by decide +kernel
theorem dL_law_247 : decode cL_law 247 = .ok (.invokevirtual 42, 3) := by decide +kernel
theorem dL_law_250 : decode cL_law 250 = .ok (.if_icmp .eq 408, 3) := by decide +kernel
theorem dL_law_253 : decode cL_law 253 = .ok (.iconst 0, 1) := by decide +kernel
theorem dL_law_254 : decode cL_law 254 = .ok (.ireturn, 1) := by decide +kernel
theorem dL_law_255 : decode cL_law 255 = .ok (.aload_n 1, 1) := by decide +kernel
theorem dL_law_256 : decode cL_law 256 = .ok (.aload_n 0, 1) := by decide +kernel
theorem dL_law_257 : decode cL_law 257 = .ok (.iload_n 3, 1) := by decide +kernel
theorem dL_law_258 : decode cL_law 258 = .ok (.iconst 1, 1) := by decide +kernel
theorem dL_law_259 : decode cL_law 259 = .ok (.iadd, 1) := by decide +kernel
theorem dL_law_260 : decode cL_law 260 = .ok (.iaload, 1) := by decide +kernel
theorem dL_law_261 : decode cL_law 261 = .ok (.invokevirtual 43, 3) := by decide +kernel
theorem dL_law_264 : decode cL_law 264 = .ok (.aload_n 2, 1) := by decide +kernel
theorem dL_law_265 : decode cL_law 265 = .ok (.aload_n 0, 1) := by decide +kernel
theorem dL_law_266 : decode cL_law 266 = .ok (.iload_n 3, 1) := by decide +kernel
theorem dL_law_267 : decode cL_law 267 = .ok (.iconst 1, 1) := by decide +kernel
theorem dL_law_268 : decode cL_law 268 = .ok (.iadd, 1) := by decide +kernel
theorem dL_law_269 : decode cL_law 269 = .ok (.iaload, 1) := by decide +kernel
theorem dL_law_270 : decode cL_law 270 = .ok (.invokevirtual 46, 3) := by decide +kernel
theorem dL_law_273 : decode cL_law 273 = .ok (.if_icmp .eq 385, 3) := by decide +kernel
theorem dL_law_276 : decode cL_law 276 = .ok (.iconst 0, 1) := by decide +kernel
theorem dL_law_277 : decode cL_law 277 = .ok (.ireturn, 1) := by decide +kernel
theorem dL_law_278 : decode cL_law 278 = .ok (.aload_n 1, 1) := by decide +kernel
theorem dL_law_279 : decode cL_law 279 = .ok (.aload_n 0, 1) := by decide +kernel
theorem dL_law_280 : decode cL_law 280 = .ok (.iload_n 3, 1) := by decide +kernel
theorem dL_law_281 : decode cL_law 281 = .ok (.iconst 1, 1) := by decide +kernel
theorem dL_law_282 : decode cL_law 282 = .ok (.iadd, 1) := by decide +kernel
theorem dL_law_283 : decode cL_law 283 = .ok (.iaload, 1) := by decide +kernel
theorem dL_law_284 : decode cL_law 284 = .ok (.aload_n 0, 1) := by decide +kernel
theorem dL_law_285 : decode cL_law 285 = .ok (.iload_n 3, 1) := by decide +kernel
theorem dL_law_286 : decode cL_law 286 = .ok (.iconst 2, 1) := by decide +kernel
theorem dL_law_287 : decode cL_law 287 = .ok (.iadd, 1) := by decide +kernel
theorem dL_law_288 : decode cL_law 288 = .ok (.iaload, 1) := by decide +kernel
theorem dL_law_289 : decode cL_law 289 = .ok (.invokevirtual 47, 3) := by decide +kernel
theorem dL_law_292 : decode cL_law 292 = .ok (.aload_n 2, 1) := by decide +kernel
theorem dL_law_293 : decode cL_law 293 = .ok (.aload_n 0, 1) := by decide +kernel
theorem dL_law_294 : decode cL_law 294 = .ok (.iload_n 3, 1) := by decide +kernel
theorem dL_law_295 : decode cL_law 295 = .ok (.iconst 1, 1) := by decide +kernel
theorem dL_law_296 : decode cL_law 296 = .ok (.iadd, 1) := by decide +kernel
theorem dL_law_297 : decode cL_law 297 = .ok (.iaload, 1) := by decide +kernel
theorem dL_law_298 : decode cL_law 298 = .ok (.aload_n 0, 1) := by decide +kernel
theorem dL_law_299 : decode cL_law 299 = .ok (.iload_n 3, 1) := by decide +kernel
theorem dL_law_300 : decode cL_law 300 = .ok (.iconst 2, 1) := by decide +kernel
theorem dL_law_301 : decode cL_law 301 = .ok (.iadd, 1) := by decide +kernel
theorem dL_law_302 : decode cL_law 302 = .ok (.iaload, 1) := by decide +kernel
theorem dL_law_303 : decode cL_law 303 = .ok (.invokevirtual 51, 3) := by decide +kernel
theorem dL_law_306 : decode cL_law 306 = .ok (.if_icmp .eq 352, 3) := by decide +kernel
theorem dL_law_309 : decode cL_law 309 = .ok (.iconst 0, 1) := by decide +kernel
theorem dL_law_310 : decode cL_law 310 = .ok (.ireturn, 1) := by decide +kernel
theorem dL_law_311 : decode cL_law 311 = .ok (.aload_n 1, 1) := by decide +kernel
theorem dL_law_312 : decode cL_law 312 = .ok (.aload_n 0, 1) := by decide +kernel
theorem dL_law_313 : decode cL_law 313 = .ok (.iload_n 3, 1) := by decide +kernel
theorem dL_law_314 : decode cL_law 314 = .ok (.iconst 1, 1) := by decide +kernel
theorem dL_law_315 : decode cL_law 315 = .ok (.iadd, 1) := by decide +kernel
theorem dL_law_316 : decode cL_law 316 = .ok (.iaload, 1) := by decide +kernel
theorem dL_law_317 : decode cL_law 317 = .ok (.invokevirtual 52, 3) := by decide +kernel
theorem dL_law_320 : decode cL_law 320 = .ok (.aload_n 2, 1) := by decide +kernel
theorem dL_law_321 : decode cL_law 321 = .ok (.aload_n 0, 1) := by decide +kernel
theorem dL_law_322 : decode cL_law 322 = .ok (.iload_n 3, 1) := by decide +kernel
theorem dL_law_323 : decode cL_law 323 = .ok (.iconst 1, 1) := by decide +kernel
theorem dL_law_324 : decode cL_law 324 = .ok (.iadd, 1) := by decide +kernel
theorem dL_law_325 : decode cL_law 325 = .ok (.iaload, 1) := by decide +kernel
theorem dL_law_326 : decode cL_law 326 = .ok (.invokevirtual 55, 3) := by decide +kernel
theorem dL_law_329 : decode cL_law 329 = .ok (.if_icmp .eq 329, 3) := by decide +kernel
theorem dL_law_332 : decode cL_law 332 = .ok (.iconst 0, 1) := by decide +kernel
theorem dL_law_333 : decode cL_law 333 = .ok (.ireturn, 1) := by decide +kernel
theorem dL_law_334 : decode cL_law 334 = .ok (.aload_n 1, 1) := by decide +kernel
theorem dL_law_335 : decode cL_law 335 = .ok (.aload_n 0, 1) := by decide +kernel
theorem dL_law_336 : decode cL_law 336 = .ok (.iload_n 3, 1) := by decide +kernel
theorem dL_law_337 : decode cL_law 337 = .ok (.iconst 1, 1) := by decide +kernel
theorem dL_law_338 : decode cL_law 338 = .ok (.iadd, 1) := by decide +kernel
theorem dL_law_339 : decode cL_law 339 = .ok (.iaload, 1) := by decide +kernel
theorem dL_law_340 : decode cL_law 340 = .ok (.aload_n 0, 1) := by decide +kernel
theorem dL_law_341 : decode cL_law 341 = .ok (.iload_n 3, 1) := by decide +kernel
theorem dL_law_342 : decode cL_law 342 = .ok (.iconst 2, 1) := by decide +kernel
theorem dL_law_343 : decode cL_law 343 = .ok (.iadd, 1) := by decide +kernel
theorem dL_law_344 : decode cL_law 344 = .ok (.iaload, 1) := by decide +kernel
theorem dL_law_345 : decode cL_law 345 = .ok (.invokevirtual 56, 3) := by decide +kernel
theorem dL_law_348 : decode cL_law 348 = .ok (.aload_n 2, 1) := by decide +kernel
theorem dL_law_349 : decode cL_law 349 = .ok (.aload_n 0, 1) := by decide +kernel
theorem dL_law_350 : decode cL_law 350 = .ok (.iload_n 3, 1) := by decide +kernel
theorem dL_law_351 : decode cL_law 351 = .ok (.iconst 1, 1) := by decide +kernel
theorem dL_law_352 : decode cL_law 352 = .ok (.iadd, 1) := by decide +kernel
theorem dL_law_353 : decode cL_law 353 = .ok (.iaload, 1) := by decide +kernel
theorem dL_law_354 : decode cL_law 354 = .ok (.aload_n 0, 1) := by decide +kernel
theorem dL_law_355 : decode cL_law 355 = .ok (.iload_n 3, 1) := by decide +kernel
theorem dL_law_356 : decode cL_law 356 = .ok (.iconst 2, 1) := by decide +kernel
theorem dL_law_357 : decode cL_law 357 = .ok (.iadd, 1) := by decide +kernel
theorem dL_law_358 : decode cL_law 358 = .ok (.iaload, 1) := by decide +kernel
theorem dL_law_359 : decode cL_law 359 = .ok (.invokevirtual 59, 3) := by decide +kernel
theorem dL_law_362 : decode cL_law 362 = .ok (.if_icmp .eq 296, 3) := by decide +kernel
theorem dL_law_365 : decode cL_law 365 = .ok (.iconst 0, 1) := by decide +kernel
theorem dL_law_366 : decode cL_law 366 = .ok (.ireturn, 1) := by decide +kernel
theorem dL_law_367 : decode cL_law 367 = .ok (.aload_n 1, 1) := by decide +kernel
theorem dL_law_368 : decode cL_law 368 = .ok (.aload_n 0, 1) := by decide +kernel
theorem dL_law_369 : decode cL_law 369 = .ok (.iload_n 3, 1) := by decide +kernel
theorem dL_law_370 : decode cL_law 370 = .ok (.iconst 1, 1) := by decide +kernel
theorem dL_law_371 : decode cL_law 371 = .ok (.iadd, 1) := by decide +kernel
theorem dL_law_372 : decode cL_law 372 = .ok (.iaload, 1) := by decide +kernel
theorem dL_law_373 : decode cL_law 373 = .ok (.aload_n 0, 1) := by decide +kernel
theorem dL_law_374 : decode cL_law 374 = .ok (.iload_n 3, 1) := by decide +kernel
theorem dL_law_375 : decode cL_law 375 = .ok (.iconst 2, 1) := by decide +kernel
theorem dL_law_376 : decode cL_law 376 = .ok (.iadd, 1) := by decide +kernel
theorem dL_law_377 : decode cL_law 377 = .ok (.iaload, 1) := by decide +kernel
theorem dL_law_378 : decode cL_law 378 = .ok (.invokevirtual 60, 3) := by decide +kernel
theorem dL_law_381 : decode cL_law 381 = .ok (.aload_n 2, 1) := by decide +kernel
theorem dL_law_382 : decode cL_law 382 = .ok (.aload_n 0, 1) := by decide +kernel
theorem dL_law_383 : decode cL_law 383 = .ok (.iload_n 3, 1) := by decide +kernel
theorem dL_law_384 : decode cL_law 384 = .ok (.iconst 1, 1) := by decide +kernel
theorem dL_law_385 : decode cL_law 385 = .ok (.iadd, 1) := by decide +kernel
theorem dL_law_386 : decode cL_law 386 = .ok (.iaload, 1) := by decide +kernel
theorem dL_law_387 : decode cL_law 387 = .ok (.aload_n 0, 1) := by decide +kernel
theorem dL_law_388 : decode cL_law 388 = .ok (.iload_n 3, 1) := by decide +kernel
theorem dL_law_389 : decode cL_law 389 = .ok (.iconst 2, 1) := by decide +kernel
theorem dL_law_390 : decode cL_law 390 = .ok (.iadd, 1) := by decide +kernel
theorem dL_law_391 : decode cL_law 391 = .ok (.iaload, 1) := by decide +kernel
theorem dL_law_392 : decode cL_law 392 = .ok (.invokevirtual 63, 3) := by decide +kernel
theorem dL_law_395 : decode cL_law 395 = .ok (.if_icmp .eq 263, 3) := by decide +kernel
theorem dL_law_398 : decode cL_law 398 = .ok (.iconst 0, 1) := by decide +kernel
theorem dL_law_399 : decode cL_law 399 = .ok (.ireturn, 1) := by decide +kernel
theorem dL_law_400 : decode cL_law 400 = .ok (.aload_n 1, 1) := by decide +kernel
theorem dL_law_401 : decode cL_law 401 = .ok (.aload_n 0, 1) := by decide +kernel
theorem dL_law_402 : decode cL_law 402 = .ok (.iload_n 3, 1) := by decide +kernel
theorem dL_law_403 : decode cL_law 403 = .ok (.iconst 1, 1) := by decide +kernel
theorem dL_law_404 : decode cL_law 404 = .ok (.iadd, 1) := by decide +kernel
theorem dL_law_405 : decode cL_law 405 = .ok (.iaload, 1) := by decide +kernel
theorem dL_law_406 : decode cL_law 406 = .ok (.aload_n 0, 1) := by decide +kernel
theorem dL_law_407 : decode cL_law 407 = .ok (.iload_n 3, 1) := by decide +kernel
theorem dL_law_408 : decode cL_law 408 = .ok (.iconst 2, 1) := by decide +kernel
theorem dL_law_409 : decode cL_law 409 = .ok (.iadd, 1) := by decide +kernel
theorem dL_law_410 : decode cL_law 410 = .ok (.iaload, 1) := by decide +kernel
theorem dL_law_411 : decode cL_law 411 = .ok (.aload_n 0, 1) := by decide +kernel
theorem dL_law_412 : decode cL_law 412 = .ok (.iload_n 3, 1) := by decide +kernel
theorem dL_law_413 : decode cL_law 413 = .ok (.iconst 3, 1) := by decide +kernel
theorem dL_law_414 : decode cL_law 414 = .ok (.iadd, 1) := by decide +kernel
theorem dL_law_415 : decode cL_law 415 = .ok (.iaload, 1) := by decide +kernel
theorem dL_law_416 : decode cL_law 416 = .ok (.invokevirtual 64, 3) := by decide +kernel
theorem dL_law_419 : decode cL_law 419 = .ok (.aload_n 2, 1) := by decide +kernel
theorem dL_law_420 : decode cL_law 420 = .ok (.aload_n 0, 1) := by decide +kernel
theorem dL_law_421 : decode cL_law 421 = .ok (.iload_n 3, 1) := by decide +kernel
theorem dL_law_422 : decode cL_law 422 = .ok (.iconst 1, 1) := by decide +kernel
theorem dL_law_423 : decode cL_law 423 = .ok (.iadd, 1) := by decide +kernel
theorem dL_law_424 : decode cL_law 424 = .ok (.iaload, 1) := by decide +kernel
theorem dL_law_425 : decode cL_law 425 = .ok (.aload_n 0, 1) := by decide +kernel
theorem dL_law_426 : decode cL_law 426 = .ok (.iload_n 3, 1) := by decide +kernel
theorem dL_law_427 : decode cL_law 427 = .ok (.iconst 2, 1) := by decide +kernel
theorem dL_law_428 : decode cL_law 428 = .ok (.iadd, 1) := by decide +kernel
theorem dL_law_429 : decode cL_law 429 = .ok (.iaload, 1) := by decide +kernel
theorem dL_law_430 : decode cL_law 430 = .ok (.aload_n 0, 1) := by decide +kernel
theorem dL_law_431 : decode cL_law 431 = .ok (.iload_n 3, 1) := by decide +kernel
theorem dL_law_432 : decode cL_law 432 = .ok (.iconst 3, 1) := by decide +kernel
theorem dL_law_433 : decode cL_law 433 = .ok (.iadd, 1) := by decide +kernel
theorem dL_law_434 : decode cL_law 434 = .ok (.iaload, 1) := by decide +kernel
theorem dL_law_435 : decode cL_law 435 = .ok (.invokevirtual 68, 3) := by decide +kernel
theorem dL_law_438 : decode cL_law 438 = .ok (.if_icmp .eq 220, 3) := by decide +kernel
theorem dL_law_441 : decode cL_law 441 = .ok (.iconst 0, 1) := by decide +kernel
theorem dL_law_442 : decode cL_law 442 = .ok (.ireturn, 1) := by decide +kernel
theorem dL_law_443 : decode cL_law 443 = .ok (.aload_n 1, 1) := by decide +kernel
theorem dL_law_444 : decode cL_law 444 = .ok (.aload_n 0, 1) := by decide +kernel
theorem dL_law_445 : decode cL_law 445 = .ok (.iload_n 3, 1) := by decide +kernel
theorem dL_law_446 : decode cL_law 446 = .ok (.iconst 1, 1) := by decide +kernel
theorem dL_law_447 : decode cL_law 447 = .ok (.iadd, 1) := by decide +kernel
theorem dL_law_448 : decode cL_law 448 = .ok (.iaload, 1) := by decide +kernel
theorem dL_law_449 : decode cL_law 449 = .ok (.aload_n 0, 1) := by decide +kernel
theorem dL_law_450 : decode cL_law 450 = .ok (.iload_n 3, 1) := by decide +kernel
theorem dL_law_451 : decode cL_law 451 = .ok (.iconst 2, 1) := by decide +kernel
theorem dL_law_452 : decode cL_law 452 = .ok (.iadd, 1) := by decide +kernel
theorem dL_law_453 : decode cL_law 453 = .ok (.iaload, 1) := by decide +kernel
theorem dL_law_454 : decode cL_law 454 = .ok (.aload_n 0, 1) := by decide +kernel
theorem dL_law_455 : decode cL_law 455 = .ok (.iload_n 3, 1) := by decide +kernel
theorem dL_law_456 : decode cL_law 456 = .ok (.iconst 3, 1) := by decide +kernel
theorem dL_law_457 : decode cL_law 457 = .ok (.iadd, 1) := by decide +kernel
theorem dL_law_458 : decode cL_law 458 = .ok (.iaload, 1) := by decide +kernel
theorem dL_law_459 : decode cL_law 459 = .ok (.invokevirtual 69, 3) := by decide +kernel
theorem dL_law_462 : decode cL_law 462 = .ok (.aload_n 2, 1) := by decide +kernel
theorem dL_law_463 : decode cL_law 463 = .ok (.aload_n 0, 1) := by decide +kernel
theorem dL_law_464 : decode cL_law 464 = .ok (.iload_n 3, 1) := by decide +kernel
theorem dL_law_465 : decode cL_law 465 = .ok (.iconst 1, 1) := by decide +kernel
theorem dL_law_466 : decode cL_law 466 = .ok (.iadd, 1) := by decide +kernel
theorem dL_law_467 : decode cL_law 467 = .ok (.iaload, 1) := by decide +kernel
theorem dL_law_468 : decode cL_law 468 = .ok (.aload_n 0, 1) := by decide +kernel
theorem dL_law_469 : decode cL_law 469 = .ok (.iload_n 3, 1) := by decide +kernel
theorem dL_law_470 : decode cL_law 470 = .ok (.iconst 2, 1) := by decide +kernel
theorem dL_law_471 : decode cL_law 471 = .ok (.iadd, 1) := by decide +kernel
theorem dL_law_472 : decode cL_law 472 = .ok (.iaload, 1) := by decide +kernel
theorem dL_law_473 : decode cL_law 473 = .ok (.aload_n 0, 1) := by decide +kernel
theorem dL_law_474 : decode cL_law 474 = .ok (.iload_n 3, 1) := by decide +kernel
theorem dL_law_475 : decode cL_law 475 = .ok (.iconst 3, 1) := by decide +kernel
theorem dL_law_476 : decode cL_law 476 = .ok (.iadd, 1) := by decide +kernel
theorem dL_law_477 : decode cL_law 477 = .ok (.iaload, 1) := by decide +kernel
theorem dL_law_478 : decode cL_law 478 = .ok (.invokevirtual 72, 3) := by decide +kernel
theorem dL_law_481 : decode cL_law 481 = .ok (.if_icmp .eq 177, 3) := by decide +kernel
theorem dL_law_484 : decode cL_law 484 = .ok (.iconst 0, 1) := by decide +kernel
theorem dL_law_485 : decode cL_law 485 = .ok (.ireturn, 1) := by decide +kernel
theorem dL_law_486 : decode cL_law 486 = .ok (.aload_n 1, 1) := by decide +kernel
theorem dL_law_487 : decode cL_law 487 = .ok (.aload_n 0, 1) := by decide +kernel
theorem dL_law_488 : decode cL_law 488 = .ok (.iload_n 3, 1) := by decide +kernel
theorem dL_law_489 : decode cL_law 489 = .ok (.iconst 1, 1) := by decide +kernel
theorem dL_law_490 : decode cL_law 490 = .ok (.iadd, 1) := by decide +kernel
theorem dL_law_491 : decode cL_law 491 = .ok (.iaload, 1) := by decide +kernel
theorem dL_law_492 : decode cL_law 492 = .ok (.aload_n 0, 1) := by decide +kernel
theorem dL_law_493 : decode cL_law 493 = .ok (.iload_n 3, 1) := by decide +kernel
theorem dL_law_494 : decode cL_law 494 = .ok (.iconst 2, 1) := by decide +kernel
theorem dL_law_495 : decode cL_law 495 = .ok (.iadd, 1) := by decide +kernel
theorem dL_law_496 : decode cL_law 496 = .ok (.iaload, 1) := by decide +kernel
theorem dL_law_497 : decode cL_law 497 = .ok (.aload_n 0, 1) := by decide +kernel
theorem dL_law_498 : decode cL_law 498 = .ok (.iload_n 3, 1) := by decide +kernel
theorem dL_law_499 : decode cL_law 499 = .ok (.iconst 3, 1) := by decide +kernel
theorem dL_law_500 : decode cL_law 500 = .ok (.iadd, 1) := by decide +kernel
theorem dL_law_501 : decode cL_law 501 = .ok (.iaload, 1) := by decide +kernel
theorem dL_law_502 : decode cL_law 502 = .ok (.aload_n 0, 1) := by decide +kernel
theorem dL_law_503 : decode cL_law 503 = .ok (.iload_n 3, 1) := by decide +kernel
theorem dL_law_504 : decode cL_law 504 = .ok (.iconst 4, 1) := by decide +kernel
theorem dL_law_505 : decode cL_law 505 = .ok (.iadd, 1) := by decide +kernel
theorem dL_law_506 : decode cL_law 506 = .ok (.iaload, 1) := by decide +kernel
theorem dL_law_507 : decode cL_law 507 = .ok (.aload_n 0, 1) := by decide +kernel
theorem dL_law_508 : decode cL_law 508 = .ok (.iload_n 3, 1) := by decide +kernel
theorem dL_law_509 : decode cL_law 509 = .ok (.iconst 5, 1) := by decide +kernel
theorem dL_law_510 : decode cL_law 510 = .ok (.iadd, 1) := by decide +kernel
theorem dL_law_511 : decode cL_law 511 = .ok (.iaload, 1) := by decide +kernel
theorem dL_law_512 : decode cL_law 512 = .ok (.ifCond .eq 7, 3) := by decide +kernel
theorem dL_law_515 : decode cL_law 515 = .ok (.iconst 1, 1) := by decide +kernel
theorem dL_law_516 : decode cL_law 516 = .ok (.goto 4, 3) := by decide +kernel
theorem dL_law_519 : decode cL_law 519 = .ok (.iconst 0, 1) := by decide +kernel
theorem dL_law_520 : decode cL_law 520 = .ok (.invokevirtual 73, 3) := by decide +kernel
theorem dL_law_523 : decode cL_law 523 = .ok (.aload_n 2, 1) := by decide +kernel
theorem dL_law_524 : decode cL_law 524 = .ok (.aload_n 0, 1) := by decide +kernel
theorem dL_law_525 : decode cL_law 525 = .ok (.iload_n 3, 1) := by decide +kernel
theorem dL_law_526 : decode cL_law 526 = .ok (.iconst 1, 1) := by decide +kernel
theorem dL_law_527 : decode cL_law 527 = .ok (.iadd, 1) := by decide +kernel
theorem dL_law_528 : decode cL_law 528 = .ok (.iaload, 1) := by decide +kernel
theorem dL_law_529 : decode cL_law 529 = .ok (.aload_n 0, 1) := by decide +kernel
theorem dL_law_530 : decode cL_law 530 = .ok (.iload_n 3, 1) := by decide +kernel
theorem dL_law_531 : decode cL_law 531 = .ok (.iconst 2, 1) := by decide +kernel
theorem dL_law_532 : decode cL_law 532 = .ok (.iadd, 1) := by decide +kernel
theorem dL_law_533 : decode cL_law 533 = .ok (.iaload, 1) := by decide +kernel
theorem dL_law_534 : decode cL_law 534 = .ok (.aload_n 0, 1) := by decide +kernel
theorem dL_law_535 : decode cL_law 535 = .ok (.iload_n 3, 1) := by decide +kernel
theorem dL_law_536 : decode cL_law 536 = .ok (.iconst 3, 1) := by decide +kernel
theorem dL_law_537 : decode cL_law 537 = .ok (.iadd, 1) := by decide +kernel
theorem dL_law_538 : decode cL_law 538 = .ok (.iaload, 1) := by decide +kernel
theorem dL_law_539 : decode cL_law 539 = .ok (.aload_n 0, 1) := by decide +kernel
theorem dL_law_540 : decode cL_law 540 = .ok (.iload_n 3, 1) := by decide +kernel
theorem dL_law_541 : decode cL_law 541 = .ok (.iconst 4, 1) := by decide +kernel
theorem dL_law_542 : decode cL_law 542 = .ok (.iadd, 1) := by decide +kernel
theorem dL_law_543 : decode cL_law 543 = .ok (.iaload, 1) := by decide +kernel
theorem dL_law_544 : decode cL_law 544 = .ok (.aload_n 0, 1) := by decide +kernel
theorem dL_law_545 : decode cL_law 545 = .ok (.iload_n 3, 1) := by decide +kernel
theorem dL_law_546 : decode cL_law 546 = .ok (.iconst 5, 1) := by decide +kernel
theorem dL_law_547 : decode cL_law 547 = .ok (.iadd, 1) := by decide +kernel
theorem dL_law_548 : decode cL_law 548 = .ok (.iaload, 1) := by decide +kernel
theorem dL_law_549 : decode cL_law 549 = .ok (.ifCond .eq 7, 3) := by decide +kernel
theorem dL_law_552 : decode cL_law 552 = .ok (.iconst 1, 1) := by decide +kernel
theorem dL_law_553 : decode cL_law 553 = .ok (.goto 4, 3) := by decide +kernel
theorem dL_law_556 : decode cL_law 556 = .ok (.iconst 0, 1) := by decide +kernel
theorem dL_law_557 : decode cL_law 557 = .ok (.invokevirtual 77, 3) := by decide +kernel
theorem dL_law_560 : decode cL_law 560 = .ok (.if_icmp .eq 98, 3) := by decide +kernel
theorem dL_law_563 : decode cL_law 563 = .ok (.iconst 0, 1) := by decide +kernel
theorem dL_law_564 : decode cL_law 564 = .ok (.ireturn, 1) := by decide +kernel
theorem dL_law_565 : decode cL_law 565 = .ok (.aload_n 1, 1) := by decide +kernel
theorem dL_law_566 : decode cL_law 566 = .ok (.aload_n 0, 1) := by decide +kernel
theorem dL_law_567 : decode cL_law 567 = .ok (.iload_n 3, 1) := by decide +kernel
theorem dL_law_568 : decode cL_law 568 = .ok (.iconst 1, 1) := by decide +kernel
theorem dL_law_569 : decode cL_law 569 = .ok (.iadd, 1) := by decide +kernel
theorem dL_law_570 : decode cL_law 570 = .ok (.iaload, 1) := by decide +kernel
theorem dL_law_571 : decode cL_law 571 = .ok (.aload_n 0, 1) := by decide +kernel
theorem dL_law_572 : decode cL_law 572 = .ok (.iload_n 3, 1) := by decide +kernel
theorem dL_law_573 : decode cL_law 573 = .ok (.iconst 2, 1) := by decide +kernel
theorem dL_law_574 : decode cL_law 574 = .ok (.iadd, 1) := by decide +kernel
theorem dL_law_575 : decode cL_law 575 = .ok (.iaload, 1) := by decide +kernel
theorem dL_law_576 : decode cL_law 576 = .ok (.aload_n 0, 1) := by decide +kernel
theorem dL_law_577 : decode cL_law 577 = .ok (.iload_n 3, 1) := by decide +kernel
theorem dL_law_578 : decode cL_law 578 = .ok (.iconst 3, 1) := by decide +kernel
theorem dL_law_579 : decode cL_law 579 = .ok (.iadd, 1) := by decide +kernel
theorem dL_law_580 : decode cL_law 580 = .ok (.iaload, 1) := by decide +kernel
theorem dL_law_581 : decode cL_law 581 = .ok (.invokevirtual 78, 3) := by decide +kernel
theorem dL_law_584 : decode cL_law 584 = .ok (.aload_n 2, 1) := by decide +kernel
theorem dL_law_585 : decode cL_law 585 = .ok (.aload_n 0, 1) := by decide +kernel
theorem dL_law_586 : decode cL_law 586 = .ok (.iload_n 3, 1) := by decide +kernel
theorem dL_law_587 : decode cL_law 587 = .ok (.iconst 1, 1) := by decide +kernel
theorem dL_law_588 : decode cL_law 588 = .ok (.iadd, 1) := by decide +kernel
theorem dL_law_589 : decode cL_law 589 = .ok (.iaload, 1) := by decide +kernel
theorem dL_law_590 : decode cL_law 590 = .ok (.aload_n 0, 1) := by decide +kernel
theorem dL_law_591 : decode cL_law 591 = .ok (.iload_n 3, 1) := by decide +kernel
theorem dL_law_592 : decode cL_law 592 = .ok (.iconst 2, 1) := by decide +kernel
theorem dL_law_593 : decode cL_law 593 = .ok (.iadd, 1) := by decide +kernel
theorem dL_law_594 : decode cL_law 594 = .ok (.iaload, 1) := by decide +kernel
theorem dL_law_595 : decode cL_law 595 = .ok (.aload_n 0, 1) := by decide +kernel
theorem dL_law_596 : decode cL_law 596 = .ok (.iload_n 3, 1) := by decide +kernel
theorem dL_law_597 : decode cL_law 597 = .ok (.iconst 3, 1) := by decide +kernel
theorem dL_law_598 : decode cL_law 598 = .ok (.iadd, 1) := by decide +kernel
theorem dL_law_599 : decode cL_law 599 = .ok (.iaload, 1) := by decide +kernel
theorem dL_law_600 : decode cL_law 600 = .ok (.invokevirtual 81, 3) := by decide +kernel
theorem dL_law_603 : decode cL_law 603 = .ok (.if_icmp .eq 55, 3) := by decide +kernel
theorem dL_law_606 : decode cL_law 606 = .ok (.iconst 0, 1) := by decide +kernel
theorem dL_law_607 : decode cL_law 607 = .ok (.ireturn, 1) := by decide +kernel
theorem dL_law_608 : decode cL_law 608 = .ok (.aload_n 1, 1) := by decide +kernel
theorem dL_law_609 : decode cL_law 609 = .ok (.invokevirtual 82, 3) := by decide +kernel
theorem dL_law_612 : decode cL_law 612 = .ok (.aload_n 2, 1) := by decide +kernel
theorem dL_law_613 : decode cL_law 613 = .ok (.invokevirtual 85, 3) := by decide +kernel
theorem dL_law_616 : decode cL_law 616 = .ok (.if_icmp .eq 42, 3) := by decide +kernel
theorem dL_law_619 : decode cL_law 619 = .ok (.iconst 0, 1) := by decide +kernel
theorem dL_law_620 : decode cL_law 620 = .ok (.ireturn, 1) := by decide +kernel
theorem dL_law_621 : decode cL_law 621 = .ok (.aload_n 1, 1) := by decide +kernel
theorem dL_law_622 : decode cL_law 622 = .ok (.aload_n 0, 1) := by decide +kernel
theorem dL_law_623 : decode cL_law 623 = .ok (.iload_n 3, 1) := by decide +kernel
theorem dL_law_624 : decode cL_law 624 = .ok (.iconst 1, 1) := by decide +kernel
theorem dL_law_625 : decode cL_law 625 = .ok (.iadd, 1) := by decide +kernel
theorem dL_law_626 : decode cL_law 626 = .ok (.iaload, 1) := by decide +kernel
theorem dL_law_627 : decode cL_law 627 = .ok (.invokevirtual 86, 3) := by decide +kernel
theorem dL_law_630 : decode cL_law 630 = .ok (.aload_n 2, 1) := by decide +kernel
theorem dL_law_631 : decode cL_law 631 = .ok (.aload_n 0, 1) := by decide +kernel
theorem dL_law_632 : decode cL_law 632 = .ok (.iload_n 3, 1) := by decide +kernel
theorem dL_law_633 : decode cL_law 633 = .ok (.iconst 1, 1) := by decide +kernel
theorem dL_law_634 : decode cL_law 634 = .ok (.iadd, 1) := by decide +kernel
theorem dL_law_635 : decode cL_law 635 = .ok (.iaload, 1) := by decide +kernel
theorem dL_law_636 : decode cL_law 636 = .ok (.invokevirtual 89, 3) := by decide +kernel
theorem dL_law_639 : decode cL_law 639 = .ok (.if_icmp .eq 19, 3) := by decide +kernel
theorem dL_law_642 : decode cL_law 642 = .ok (.iconst 0, 1) := by decide +kernel
theorem dL_law_643 : decode cL_law 643 = .ok (.ireturn, 1) := by decide +kernel
theorem dL_law_644 : decode cL_law 644 = .ok (.aload_n 1, 1) := by decide +kernel
theorem dL_law_645 : decode cL_law 645 = .ok (.invokevirtual 90, 3) := by decide +kernel
theorem dL_law_648 : decode cL_law 648 = .ok (.aload_n 2, 1) := by decide +kernel
theorem dL_law_649 : decode cL_law 649 = .ok (.invokevirtual 94, 3) := by decide +kernel
theorem dL_law_652 : decode cL_law 652 = .ok (.lcmp, 1) := by decide +kernel
theorem dL_law_653 : decode cL_law 653 = .ok (.ifCond .eq 5, 3) := by decide +kernel
theorem dL_law_656 : decode cL_law 656 = .ok (.iconst 0, 1) := by decide +kernel
theorem dL_law_657 : decode cL_law 657 = .ok (.ireturn, 1) := by decide +kernel
theorem dL_law_658 : decode cL_law 658 = .ok (.iinc 3 6, 3) := by decide +kernel
theorem dL_law_661 : decode cL_law 661 = .ok (.goto (-643), 3) := by decide +kernel
theorem dL_law_664 : decode cL_law 664 = .ok (.iconst 1, 1) := by decide +kernel
theorem dL_law_665 : decode cL_law 665 = .ok (.ireturn, 1) := by decide +kernel
