theorem dX6_blank_7 : decode cX6_blank 7 = .ok (.putfield 36, 3) := by decide +kernel
theorem dX6_blank_10 : decode cX6_blank 10 = .ok (.iload_n 1, 1) := by decide +kernel
theorem dX6_blank_11 : decode cX6_blank 11 = .ok (.ireturn, 1) := by decide +kernel
theorem dX6_takes_0 : decode cX6_takes 0 = .ok (.iload_n 1, 1) := by decide +kernel
theorem dX6_takes_1 : decode cX6_takes 1 = .ok (.bipush 47, 2) := by decide +kernel
theorem dX6_takes_3 : decode cX6_takes 3 = .ok (.if_icmp .ne 103, 3) := by decide +kernel
theorem dX6_takes_6 : decode cX6_takes 6 = .ok (.aload_n 0, 1) := by decide +kernel
theorem dX6_takes_7 : decode cX6_takes 7 = .ok (.getfield 39, 3) := by decide +kernel
theorem dX6_takes_10 : decode cX6_takes 10 = .ok (.iconst 1, 1) := by decide +kernel
theorem dX6_takes_11 : decode cX6_takes 11 = .ok (.iadd, 1) := by decide +kernel
theorem dX6_takes_12 : decode cX6_takes 12 = .ok (.iconst 5, 1) := by decide +kernel
theorem dX6_takes_13 : decode cX6_takes 13 = .ok (.if_icmp .ge 36, 3) := by decide +kernel
theorem dX6_takes_16 : decode cX6_takes 16 = .ok (.aload_n 0, 1) := by decide +kernel
theorem dX6_takes_17 : decode cX6_takes 17 = .ok (.getfield 42, 3) := by decide +kernel
theorem dX6_takes_20 : decode cX6_takes 20 = .ok (.ifCond .ne 14, 3) := by decide +kernel
theorem dX6_takes_23 : decode cX6_takes 23 = .ok (.aload_n 0, 1) := by decide +kernel
theorem dX6_takes_24 : decode cX6_takes 24 = .ok (.getfield 45, 3) := by decide +kernel
theorem dX6_takes_27 : decode cX6_takes 27 = .ok (.iconst 3, 1) := by decide +kernel
theorem dX6_takes_28 : decode cX6_takes 28 = .ok (.if_icmp .lt 21, 3) := by decide +kernel
theorem dX6_takes_31 : decode cX6_takes 31 = .ok (.goto 14, 3) := by decide +kernel
theorem dX6_takes_34 : decode cX6_takes 34 = .ok (.aload_n 0, 1) := by decide +kernel
theorem dX6_takes_35 : decode cX6_takes 35 = .ok (.getfield 45, 3) := by decide +kernel
theorem dX6_takes_38 : decode cX6_takes 38 = .ok (.aload_n 0, 1) := by decide +kernel
theorem dX6_takes_39 : decode cX6_takes 39 = .ok (.getfield 42, 3) := by decide +kernel
theorem dX6_takes_42 : decode cX6_takes 42 = .ok (.if_icmp .ne 7, 3) := by decide +kernel
theorem dX6_takes_45 : decode cX6_takes 45 = .ok (.iconst 1, 1) := by decide +kernel
theorem dX6_takes_46 : decode cX6_takes 46 = .ok (.goto 4, 3) := by decide +kernel
theorem dX6_takes_49 : decode cX6_takes 49 = .ok (.iconst 0, 1) := by decide +kernel
theorem dX6_takes_50 : decode cX6_takes 50 = .ok (.istore_n 2, 1) := by decide +kernel
theorem dX6_takes_51 : decode cX6_takes 51 = .ok (.aload_n 0, 1) := by decide +kernel
theorem dX6_takes_52 : decode cX6_takes 52 = .ok (.iload_n 2, 1) := by decide +kernel
theorem dX6_takes_53 : decode cX6_takes 53 = .ok (.ifCond .eq 10, 3) := by decide +kernel
theorem dX6_takes_56 : decode cX6_takes 56 = .ok (.aload_n 0, 1) := by decide +kernel
theorem dX6_takes_57 : decode cX6_takes 57 = .ok (.getfield 45, 3) := by decide +kernel
theorem dX6_takes_60 : decode cX6_takes 60 = .ok (.goto 7, 3) := by decide +kernel
theorem dX6_takes_63 : decode cX6_takes 63 = .ok (.aload_n 0, 1) := by decide +kernel
theorem dX6_takes_64 : decode cX6_takes 64 = .ok (.getfield 42, 3) := by decide +kernel
theorem dX6_takes_67 : decode cX6_takes 67 = .ok (.putfield 42, 3) := by decide +kernel
theorem dX6_takes_70 : decode cX6_takes 70 = .ok (.aload_n 0, 1) := by decide +kernel
theorem dX6_takes_71 : decode cX6_takes 71 = .ok (.dup, 1) := by decide +kernel
theorem dX6_takes_72 : decode cX6_takes 72 = .ok (.getfield 39, 3) := by decide +kernel
theorem dX6_takes_75 : decode cX6_takes 75 = .ok (.iload_n 2, 1) := by decide +kernel
theorem dX6_takes_76 : decode cX6_takes 76 = .ok (.ifCond .eq 7, 3) := by decide +kernel
theorem dX6_takes_79 : decode cX6_takes 79 = .ok (.iconst 1, 1) := by decide +kernel
theorem dX6_takes_80 : decode cX6_takes 80 = .ok (.goto 4, 3) := by decide +kernel
theorem dX6_takes_83 : decode cX6_takes 83 = .ok (.iconst 0, 1) := by decide +kernel
theorem dX6_takes_84 : decode cX6_takes 84 = .ok (.iadd, 1) := by decide +kernel
theorem dX6_takes_85 : decode cX6_takes 85 = .ok (.putfield 39, 3) := by decide +kernel
theorem dX6_takes_88 : decode cX6_takes 88 = .ok (.aload_n 0, 1) := by decide +kernel
theorem dX6_takes_89 : decode cX6_takes 89 = .ok (.iload_n 2, 1) := by decide +kernel
theorem dX6_takes_90 : decode cX6_takes 90 = .ok (.ifCond .eq 7, 3) := by decide +kernel
theorem dX6_takes_93 : decode cX6_takes 93 = .ok (.iconst 0, 1) := by decide +kernel
theorem dX6_takes_94 : decode cX6_takes 94 = .ok (.goto 7, 3) := by decide +kernel
theorem dX6_takes_97 : decode cX6_takes 97 = .ok (.aload_n 0, 1) := by decide +kernel
theorem dX6_takes_98 : decode cX6_takes 98 = .ok (.getfield 45, 3) := by decide +kernel
theorem dX6_takes_101 : decode cX6_takes 101 = .ok (.putfield 45, 3) := by decide +kernel
theorem dX6_takes_104 : decode cX6_takes 104 = .ok (.iload_n 2, 1) := by decide +kernel
theorem dX6_takes_105 : decode cX6_takes 105 = .ok (.ireturn, 1) := by decide +kernel
theorem dX6_takes_106 : decode cX6_takes 106 = .ok (.iload_n 1, 1) := by decide +kernel
theorem dX6_takes_107 : decode cX6_takes 107 = .ok (.bipush 48, 2) := by decide +kernel
theorem dX6_takes_109 : decode cX6_takes 109 = .ok (.if_icmp .eq 9, 3) := by decide +kernel
theorem dX6_takes_112 : decode cX6_takes 112 = .ok (.iload_n 1, 1) := by decide +kernel
theorem dX6_takes_113 : decode cX6_takes 113 = .ok (.bipush 49, 2) := by decide +kernel
theorem dX6_takes_115 : decode cX6_takes 115 = .ok (.if_icmp .ne 30, 3) := by decide +kernel
theorem dX6_takes_118 : decode cX6_takes 118 = .ok (.aload_n 0, 1) := by decide +kernel
theorem dX6_takes_119 : decode cX6_takes 119 = .ok (.getfield 45, 3) := by decide +kernel
theorem dX6_takes_122 : decode cX6_takes 122 = .ok (.aload_n 0, 1) := by decide +kernel
theorem dX6_takes_123 : decode cX6_takes 123 = .ok (.getfield 42, 3) := by decide +kernel
theorem dX6_takes_126 : decode cX6_takes 126 = .ok (.ifCond .ne 8, 3) := by decide +kernel
theorem dX6_takes_129 : decode cX6_takes 129 = .ok (.bipush 10, 2) := by decide +kernel
theorem dX6_takes_131 : decode cX6_takes 131 = .ok (.goto 7, 3) := by decide +kernel
theorem dX6_takes_134 : decode cX6_takes 134 = .ok (.aload_n 0, 1) := by decide +kernel
theorem dX6_takes_135 : decode cX6_takes 135 = .ok (.getfield 42, 3) := by decide +kernel
theorem dX6_takes_138 : decode cX6_takes 138 = .ok (.if_icmp .ge 7, 3) := by decide +kernel
theorem dX6_takes_141 : decode cX6_takes 141 = .ok (.iconst 1, 1) := by decide +kernel
theorem dX6_takes_142 : decode cX6_takes 142 = .ok (.goto 4, 3) := by decide +kernel
theorem dX6_takes_145 : decode cX6_takes 145 = .ok (.iconst 0, 1) := by decide +kernel
theorem dX6_takes_146 : decode cX6_takes 146 = .ok (.istore_n 2, 1) := by decide +kernel
theorem dX6_takes_147 : decode cX6_takes 147 = .ok (.iload_n 2, 1) := by decide +kernel
theorem dX6_takes_148 : decode cX6_takes 148 = .ok (.ifCond .eq 52, 3) := by decide +kernel
theorem dX6_takes_151 : decode cX6_takes 151 = .ok (.aload_n 0, 1) := by decide +kernel
theorem dX6_takes_152 : decode cX6_takes 152 = .ok (.getfield 23, 3) := by decide +kernel
theorem dX6_takes_155 : decode cX6_takes 155 = .ok (.aload_n 0, 1) := by decide +kernel
theorem dX6_takes_156 : decode cX6_takes 156 = .ok (.getfield 39, 3) := by decide +kernel
theorem dX6_takes_159 : decode cX6_takes 159 = .ok (.aload_n 0, 1) := by decide +kernel
theorem dX6_takes_160 : decode cX6_takes 160 = .ok (.getfield 45, 3) := by decide +kernel
theorem dX6_takes_163 : decode cX6_takes 163 = .ok (.ifCond .ne 7, 3) := by decide +kernel
theorem dX6_takes_166 : decode cX6_takes 166 = .ok (.iconst 0, 1) := by decide +kernel
theorem dX6_takes_167 : decode cX6_takes 167 = .ok (.goto 12, 3) := by decide +kernel
theorem dX6_takes_170 : decode cX6_takes 170 = .ok (.aload_n 0, 1) := by decide +kernel
theorem dX6_takes_171 : decode cX6_takes 171 = .ok (.getfield 23, 3) := by decide +kernel
theorem dX6_takes_174 : decode cX6_takes 174 = .ok (.aload_n 0, 1) := by decide +kernel
theorem dX6_takes_175 : decode cX6_takes 175 = .ok (.getfield 39, 3) := by decide +kernel
theorem dX6_takes_178 : decode cX6_takes 178 = .ok (.iaload, 1) := by decide +kernel
theorem dX6_takes_179 : decode cX6_takes 179 = .ok (.iload_n 1, 1) := by decide +kernel
theorem dX6_takes_180 : decode cX6_takes 180 = .ok (.bipush 48, 2) := by decide +kernel
theorem dX6_takes_182 : decode cX6_takes 182 = .ok (.isub, 1) := by decide +kernel
theorem dX6_takes_183 : decode cX6_takes 183 = .ok (.aload_n 0, 1) := by decide +kernel
theorem dX6_takes_184 : decode cX6_takes 184 = .ok (.getfield 45, 3) := by decide +kernel
theorem dX6_takes_187 : decode cX6_takes 187 = .ok (.ishl, 1) := by decide +kernel
theorem dX6_takes_188 : decode cX6_takes 188 = .ok (.ior, 1) := by decide +kernel
theorem dX6_takes_189 : decode cX6_takes 189 = .ok (.iastore, 1) := by decide +kernel
theorem dX6_takes_190 : decode cX6_takes 190 = .ok (.aload_n 0, 1) := by decide +kernel
theorem dX6_takes_191 : decode cX6_takes 191 = .ok (.dup, 1) := by decide +kernel
theorem dX6_takes_192 : decode cX6_takes 192 = .ok (.getfield 45, 3) := by decide +kernel
theorem dX6_takes_195 : decode cX6_takes 195 = .ok (.iconst 1, 1) := by decide +kernel
theorem dX6_takes_196 : decode cX6_takes 196 = .ok (.iadd, 1) := by decide +kernel
theorem dX6_takes_197 : decode cX6_takes 197 = .ok (.putfield 45, 3) := by decide +kernel
theorem dX6_takes_200 : decode cX6_takes 200 = .ok (.iload_n 2, 1) := by decide +kernel
theorem dX6_takes_201 : decode cX6_takes 201 = .ok (.ireturn, 1) := by decide +kernel
set_option maxRecDepth 20000 in
theorem ggX6_goAlong_X6_takes : GoodIn wsX6_goAlong wsX6_takes := goodIn_r _ [10, 1, 3, 2, 11, 12, 13, 14, 15, 16, 17, 18, 19, 20, 21, 22, 23, 24, 25, 26, 27, 28, 29, 30, 31, 32] (by decide +kernel) (by decide +kernel)
set_option maxRecDepth 20000 in
theorem gX6_goAlong_X6_takes : GoodIn wsX6_goAlong (wsV RX6 48 RX6 yX6_takes wsX6_takes) := goodIn_app (goodIn_of _ (by decide +kernel)) ggX6_goAlong_X6_takes
theorem dX6_goAlong_0 : decode cX6_goAlong 0 = .ok (.aload_n 0, 1) := by decide +kernel
theorem dX6_goAlong_1 : decode cX6_goAlong 1 = .ok (.iconst 0, 1) := by decide +kernel
theorem dX6_goAlong_2 : decode cX6_goAlong 2 = .ok (.putfield 39, 3) := by decide +kernel
theorem dX6_goAlong_5 : decode cX6_goAlong 5 = .ok (.aload_n 0, 1) := by decide +kernel
theorem dX6_goAlong_6 : decode cX6_goAlong 6 = .ok (.iconst 0, 1) := by decide +kernel
theorem dX6_goAlong_7 : decode cX6_goAlong 7 = .ok (.putfield 45, 3) := by decide +kernel
theorem dX6_goAlong_10 : decode cX6_goAlong 10 = .ok (.aload_n 0, 1) := by decide +kernel
theorem dX6_goAlong_11 : decode cX6_goAlong 11 = .ok (.iconst 0, 1) := by decide +kernel
theorem dX6_goAlong_12 : decode cX6_goAlong 12 = .ok (.putfield 42, 3) := by decide +kernel
theorem dX6_goAlong_15 : decode cX6_goAlong 15 = .ok (.iconst 0, 1) := by decide +kernel
theorem dX6_goAlong_16 : decode cX6_goAlong 16 = .ok (.istore_n 1, 1) := by decide +kernel
theorem dX6_goAlong_17 : decode cX6_goAlong 17 = .ok (.iload_n 1, 1) := by decide +kernel
theorem dX6_goAlong_18 : decode cX6_goAlong 18 = .ok (.aload_n 0, 1) := by decide +kernel
theorem dX6_goAlong_19 : decode cX6_goAlong 19 = .ok (.getfield 36, 3) := by decide +kernel
theorem dX6_goAlong_22 : decode cX6_goAlong 22 = .ok (.if_icmp .ge 22, 3) := by decide +kernel
theorem dX6_goAlong_25 : decode cX6_goAlong 25 = .ok (.aload_n 0, 1) := by decide +kernel
theorem dX6_goAlong_26 : decode cX6_goAlong 26 = .ok (.aload_n 0, 1) := by decide +kernel
theorem dX6_goAlong_27 : decode cX6_goAlong 27 = .ok (.getfield 7, 3) := by decide +kernel
theorem dX6_goAlong_30 : decode cX6_goAlong 30 = .ok (.iload_n 1, 1) := by decide +kernel
theorem dX6_goAlong_31 : decode cX6_goAlong 31 = .ok (.iaload, 1) := by decide +kernel
theorem dX6_goAlong_32 : decode cX6_goAlong 32 = .ok (.invokevirtual 48, 3) := by decide +kernel
theorem dX6_goAlong_35 : decode cX6_goAlong 35 = .ok (.ifCond .eq 9, 3) := by decide +kernel
theorem dX6_goAlong_38 : decode cX6_goAlong 38 = .ok (.iinc 1 1, 3) := by decide +kernel
theorem dX6_goAlong_41 : decode cX6_goAlong 41 = .ok (.goto (-24), 3) := by decide +kernel
theorem dX6_goAlong_44 : decode cX6_goAlong 44 = .ok (.iload_n 1, 1) := by decide +kernel
theorem dX6_goAlong_45 : decode cX6_goAlong 45 = .ok (.ireturn, 1) := by decide +kernel
set_option maxRecDepth 20000 in
theorem ggX6_fault_X6_goAlong : GoodIn wsX6_fault wsX6_goAlong := goodIn_r _ [5, 6, 7, 8, 9, 10, 11, 12, 13, 4, 14, 15, 16, 17, 18, 19, 20, 21, 22, 23, 24, 25, 26, 27, 28, 29, 30, 31, 32, 33, 34, 35, 36] (by decide +kernel) (by decide +kernel)
set_option maxRecDepth 20000 in
theorem gX6_fault_X6_goAlong : GoodIn wsX6_fault (wsV RX6 52 RX6 yX6_goAlong wsX6_goAlong) := goodIn_app (goodIn_of _ (by decide +kernel)) ggX6_fault_X6_goAlong
theorem dX6_fault_0 : decode cX6_fault 0 = .ok (.aload_n 0, 1) := by decide +kernel
theorem dX6_fault_1 : decode cX6_fault 1 = .ok (.invokevirtual 52, 3) := by decide +kernel
theorem dX6_fault_4 : decode cX6_fault 4 = .ok (.ireturn, 1) := by decide +kernel
set_option maxRecDepth 20000 in
theorem ggX6_sums_X6_goAlong : GoodIn wsX6_sums wsX6_goAlong := goodIn_r _ [14, 4, 3, 2, 1, 15, 16, 17, 18, 13, 19, 8, 53, 54, 55, 56, 57, 58, 59, 60, 61, 62, 63, 64, 65, 66, 67, 68, 69, 70, 71, 72, 73] (by decide +kernel) (by decide +kernel)
set_option maxRecDepth 20000 in
theorem gX6_sums_X6_goAlong : GoodIn wsX6_sums (wsV RX6 52 RX6 yX6_goAlong wsX6_goAlong) := goodIn_app (goodIn_of _ (by decide +kernel)) ggX6_sums_X6_goAlong
set_option maxRecDepth 20000 in
theorem ggX6_sums_X6_layAll : GoodIn wsX6_sums wsX6_layAll := goodIn_r _ [23, 24, 25, 26, 27, 28, 29, 30, 13, 31, 6, 32, 33, 34, 35, 5, 7, 36, 37, 38, 39, 40, 41, 42, 43, 44, 45, 46, 47, 48, 49, 50, 51, 52, 53, 54, 55, 56, 57, 58, 59, 60, 61, 62, 63, 64, 65, 66, 67, 68, 69, 70, 71, 72, 73] (by decide +kernel) (by decide +kernel)
set_option maxRecDepth 20000 in
theorem gX6_sums_X6_layAll : GoodIn wsX6_sums (wsV RX6 65 RX6 yX6_layAll wsX6_layAll) := goodIn_app (goodIn_of _ (by decide +kernel)) ggX6_sums_X6_layAll
theorem dX6_sums_0 : decode cX6_sums 0 = .ok (.aload_n 0, 1) := by decide +kernel
theorem dX6_sums_1 : decode cX6_sums 1 = .ok (.invokevirtual 52, 3) := by decide +kernel
theorem dX6_sums_4 : decode cX6_sums 4 = .ok (.aload_n 0, 1) := by decide +kernel
theorem dX6_sums_5 : decode cX6_sums 5 = .ok (.getfield 36, 3) := by decide +kernel
theorem dX6_sums_8 : decode cX6_sums 8 = .ok (.if_icmp .lt 32, 3) := by decide +kernel
theorem dX6_sums_11 : decode cX6_sums 11 = .ok (.aload_n 0, 1) := by decide +kernel
theorem dX6_sums_12 : decode cX6_sums 12 = .ok (.getfield 42, 3) := by decide +kernel
theorem dX6_sums_15 : decode cX6_sums 15 = .ok (.ifCond .ne 14, 3) := by decide +kernel
theorem dX6_sums_18 : decode cX6_sums 18 = .ok (.aload_n 0, 1) := by decide +kernel
theorem dX6_sums_19 : decode cX6_sums 19 = .ok (.getfield 45, 3) := by decide +kernel
theorem dX6_sums_22 : decode cX6_sums 22 = .ok (.iconst 3, 1) := by decide +kernel
theorem dX6_sums_23 : decode cX6_sums 23 = .ok (.if_icmp .ge 21, 3) := by decide +kernel
theorem dX6_sums_26 : decode cX6_sums 26 = .ok (.goto 14, 3) := by decide +kernel
theorem dX6_sums_29 : decode cX6_sums 29 = .ok (.aload_n 0, 1) := by decide +kernel
theorem dX6_sums_30 : decode cX6_sums 30 = .ok (.getfield 45, 3) := by decide +kernel
theorem dX6_sums_33 : decode cX6_sums 33 = .ok (.aload_n 0, 1) := by decide +kernel
theorem dX6_sums_34 : decode cX6_sums 34 = .ok (.getfield 42, 3) := by decide +kernel
theorem dX6_sums_37 : decode cX6_sums 37 = .ok (.if_icmp .eq 7, 3) := by decide +kernel
theorem dX6_sums_40 : decode cX6_sums 40 = .ok (.sipush (-1003), 3) := by decide +kernel
theorem dX6_sums_43 : decode cX6_sums 43 = .ok (.ireturn, 1) := by decide +kernel
theorem dX6_sums_44 : decode cX6_sums 44 = .ok (.aload_n 0, 1) := by decide +kernel
theorem dX6_sums_45 : decode cX6_sums 45 = .ok (.aload_n 0, 1) := by decide +kernel
theorem dX6_sums_46 : decode cX6_sums 46 = .ok (.getfield 39, 3) := by decide +kernel
theorem dX6_sums_49 : decode cX6_sums 49 = .ok (.iconst 1, 1) := by decide +kernel
theorem dX6_sums_50 : decode cX6_sums 50 = .ok (.iadd, 1) := by decide +kernel
theorem dX6_sums_51 : decode cX6_sums 51 = .ok (.putfield 56, 3) := by decide +kernel
theorem dX6_sums_54 : decode cX6_sums 54 = .ok (.aload_n 0, 1) := by decide +kernel
theorem dX6_sums_55 : decode cX6_sums 55 = .ok (.aload_n 0, 1) := by decide +kernel
theorem dX6_sums_56 : decode cX6_sums 56 = .ok (.getfield 45, 3) := by decide +kernel
theorem dX6_sums_59 : decode cX6_sums 59 = .ok (.putfield 59, 3) := by decide +kernel
theorem dX6_sums_62 : decode cX6_sums 62 = .ok (.iconst 0, 1) := by decide +kernel
theorem dX6_sums_63 : decode cX6_sums 63 = .ok (.istore_n 1, 1) := by decide +kernel
theorem dX6_sums_64 : decode cX6_sums 64 = .ok (.iload_n 1, 1) := by decide +kernel
theorem dX6_sums_65 : decode cX6_sums 65 = .ok (.aload_n 0, 1) := by decide +kernel
theorem dX6_sums_66 : decode cX6_sums 66 = .ok (.getfield 56, 3) := by decide +kernel
theorem dX6_sums_69 : decode cX6_sums 69 = .ok (.if_icmp .ge 21, 3) := by decide +kernel
theorem dX6_sums_72 : decode cX6_sums 72 = .ok (.aload_n 0, 1) := by decide +kernel
theorem dX6_sums_73 : decode cX6_sums 73 = .ok (.getfield 13, 3) := by decide +kernel
theorem dX6_sums_76 : decode cX6_sums 76 = .ok (.iload_n 1, 1) := by decide +kernel
theorem dX6_sums_77 : decode cX6_sums 77 = .ok (.aload_n 0, 1) := by decide +kernel
theorem dX6_sums_78 : decode cX6_sums 78 = .ok (.getfield 23, 3) := by decide +kernel
theorem dX6_sums_81 : decode cX6_sums 81 = .ok (.iload_n 1, 1) := by decide +kernel
theorem dX6_sums_82 : decode cX6_sums 82 = .ok (.iaload, 1) := by decide +kernel
theorem dX6_sums_83 : decode cX6_sums 83 = .ok (.iastore, 1) := by decide +kernel
theorem dX6_sums_84 : decode cX6_sums 84 = .ok (.iinc 1 1, 3) := by decide +kernel
theorem dX6_sums_87 : decode cX6_sums 87 = .ok (.goto (-23), 3) := by decide +kernel
theorem dX6_sums_90 : decode cX6_sums 90 = .ok (.aload_n 0, 1) := by decide +kernel
theorem dX6_sums_91 : decode cX6_sums 91 = .ok (.dup, 1) := by decide +kernel
theorem dX6_sums_92 : decode cX6_sums 92 = .ok (.getfield 62, 3) := by decide +kernel
theorem dX6_sums_95 : decode cX6_sums 95 = .ok (.iconst 1, 1) := by decide +kernel
theorem dX6_sums_96 : decode cX6_sums 96 = .ok (.iadd, 1) := by decide +kernel
theorem dX6_sums_97 : decode cX6_sums 97 = .ok (.putfield 62, 3) := by decide +kernel
theorem dX6_sums_100 : decode cX6_sums 100 = .ok (.aload_n 0, 1) := by decide +kernel
theorem dX6_sums_101 : decode cX6_sums 101 = .ok (.iconst 0, 1) := by decide +kernel
theorem dX6_sums_102 : decode cX6_sums 102 = .ok (.putfield 36, 3) := by decide +kernel
theorem dX6_sums_105 : decode cX6_sums 105 = .ok (.aload_n 0, 1) := by decide +kernel
theorem dX6_sums_106 : decode cX6_sums 106 = .ok (.invokevirtual 65, 3) := by decide +kernel
theorem dX6_sums_109 : decode cX6_sums 109 = .ok (.aload_n 0, 1) := by decide +kernel
theorem dX6_sums_110 : decode cX6_sums 110 = .ok (.getfield 59, 3) := by decide +kernel
theorem dX6_sums_113 : decode cX6_sums 113 = .ok (.ireturn, 1) := by decide +kernel
set_option maxRecDepth 20000 in
theorem ggX6_syndromeBy_X6_ones : GoodIn wsX6_syndromeBy wsX6_ones := goodIn_r _ [6] (by decide +kernel) (by decide +kernel)
set_option maxRecDepth 20000 in
theorem gX6_syndromeBy_X6_ones : GoodIn wsX6_syndromeBy (va_wsS RX6 68 yX6_ones wsX6_ones) := goodIn_app (goodIn_of _ (by decide +kernel)) ggX6_syndromeBy_X6_ones
theorem dX6_syndromeBy_0 : decode cX6_syndromeBy 0 = .ok (.iconst 0, 1) := by decide +kernel
theorem dX6_syndromeBy_1 : decode cX6_syndromeBy 1 = .ok (.istore_n 2, 1) := by decide +kernel
theorem dX6_syndromeBy_2 : decode cX6_syndromeBy 2 = .ok (.iconst 0, 1) := by decide +kernel
theorem dX6_syndromeBy_3 : decode cX6_syndromeBy 3 = .ok (.istore_n 3, 1) := by decide +kernel
theorem dX6_syndromeBy_4 : decode cX6_syndromeBy 4 = .ok (.iload_n 3, 1) := by decide +kernel
theorem dX6_syndromeBy_5 : decode cX6_syndromeBy 5 = .ok (.aload_n 0, 1) := by decide +kernel
theorem dX6_syndromeBy_6 : decode cX6_syndromeBy 6 = .ok (.getfield 56, 3) := by decide +kernel
theorem dX6_syndromeBy_9 : decode cX6_syndromeBy 9 = .ok (.if_icmp .ge 27, 3) := by decide +kernel
theorem dX6_syndromeBy_12 : decode cX6_syndromeBy 12 = .ok (.iload_n 2, 1) := by decide +kernel
theorem dX6_syndromeBy_13 : decode cX6_syndromeBy 13 = .ok (.aload_n 0, 1) := by decide +kernel
theorem dX6_syndromeBy_14 : decode cX6_syndromeBy 14 = .ok (.getfield 13, 3) := by decide +kernel
theorem dX6_syndromeBy_17 : decode cX6_syndromeBy 17 = .ok (.iload_n 3, 1) := by decide +kernel
theorem dX6_syndromeBy_18 : decode cX6_syndromeBy 18 = .ok (.iaload, 1) := by decide +kernel
theorem dX6_syndromeBy_19 : decode cX6_syndromeBy 19 = .ok (.iload_n 1, 1) := by decide +kernel
theorem dX6_syndromeBy_20 : decode cX6_syndromeBy 20 = .ok (.iand, 1) := by decide +kernel
theorem dX6_syndromeBy_21 : decode cX6_syndromeBy 21 = .ok (.invokestatic 68, 3) := by decide +kernel
theorem dX6_syndromeBy_24 : decode cX6_syndromeBy 24 = .ok (.iconst 2, 1) := by decide +kernel
theorem dX6_syndromeBy_25 : decode cX6_syndromeBy 25 = .ok (.irem, 1) := by decide +kernel
theorem dX6_syndromeBy_26 : decode cX6_syndromeBy 26 = .ok (.iload_n 3, 1) := by decide +kernel
theorem dX6_syndromeBy_27 : decode cX6_syndromeBy 27 = .ok (.ishl, 1) := by decide +kernel
theorem dX6_syndromeBy_28 : decode cX6_syndromeBy 28 = .ok (.ior, 1) := by decide +kernel
theorem dX6_syndromeBy_29 : decode cX6_syndromeBy 29 = .ok (.istore_n 2, 1) := by decide +kernel
theorem dX6_syndromeBy_30 : decode cX6_syndromeBy 30 = .ok (.iinc 3 1, 3) := by decide +kernel
theorem dX6_syndromeBy_33 : decode cX6_syndromeBy 33 = .ok (.goto (-29), 3) := by decide +kernel
theorem dX6_syndromeBy_36 : decode cX6_syndromeBy 36 = .ok (.iload_n 2, 1) := by decide +kernel
theorem dX6_syndromeBy_37 : decode cX6_syndromeBy 37 = .ok (.ireturn, 1) := by decide +kernel
theorem dX6_words_0 : decode cX6_words 0 = .ok (.iconst 1, 1) := by decide +kernel
theorem dX6_words_1 : decode cX6_words 1 = .ok (.aload_n 0, 1) := by decide +kernel
theorem dX6_words_2 : decode cX6_words 2 = .ok (.getfield 59, 3) := by decide +kernel
theorem dX6_words_5 : decode cX6_words 5 = .ok (.ishl, 1) := by decide +kernel
theorem dX6_words_6 : decode cX6_words 6 = .ok (.ireturn, 1) := by decide +kernel
set_option maxRecDepth 20000 in
theorem ggX6_layAll_X6_words : GoodIn wsX6_layAll wsX6_words := goodIn_r _ [9, 10, 34, 35, 36, 37, 38, 39, 40, 41, 42, 43, 44, 45, 46, 47, 48, 49, 50, 51, 52, 53, 54] (by decide +kernel) (by decide +kernel)
set_option maxRecDepth 20000 in
theorem gX6_layAll_X6_words : GoodIn wsX6_layAll (wsV RX6 72 RX6 yX6_words wsX6_words) := goodIn_app (goodIn_of _ (by decide +kernel)) ggX6_layAll_X6_words
set_option maxRecDepth 20000 in
theorem ggX6_layAll_X6_syndromeBy : GoodIn wsX6_layAll wsX6_syndromeBy := goodIn_r _ [14, 15, 16, 17, 18, 8, 19, 34, 35, 36, 37, 38, 39, 40, 41, 42, 43, 44, 45, 46, 47, 48, 49, 50, 51, 52, 53, 54] (by decide +kernel) (by decide +kernel)
set_option maxRecDepth 20000 in
theorem gX6_layAll_X6_syndromeBy : GoodIn wsX6_layAll (wsV RX6 75 RX6 yX6_syndromeBy wsX6_syndromeBy) := goodIn_app (goodIn_of _ (by decide +kernel)) ggX6_layAll_X6_syndromeBy
set_option maxRecDepth 20000 in
theorem ggX6_layAll_X6_ones : GoodIn wsX6_layAll wsX6_ones := goodIn_r _ [19] (by decide +kernel) (by decide +kernel)
set_option maxRecDepth 20000 in
theorem gX6_layAll_X6_ones : GoodIn wsX6_layAll (va_wsS RX6 68 yX6_ones wsX6_ones) := goodIn_app (goodIn_of _ (by decide +kernel)) ggX6_layAll_X6_ones
set_option maxRecDepth 20000 in
theorem ggX6_layAll_X6_distanceNow : GoodIn wsX6_layAll wsX6_distanceNow := goodIn_r _ [23, 5, 6, 7, 8, 9, 10, 11, 12, 13, 14, 15, 16, 17, 18, 19, 34, 35, 36, 37, 38, 39, 40, 41, 42, 43, 44, 45, 46, 47, 48, 49, 50, 51, 52, 53, 54] (by decide +kernel) (by decide +kernel)
set_option maxRecDepth 20000 in
theorem gX6_layAll_X6_distanceNow : GoodIn wsX6_layAll (wsV RX6 81 RX6 yX6_distanceNow wsX6_distanceNow) := goodIn_app (goodIn_of _ (by decide +kernel)) ggX6_layAll_X6_distanceNow
set_option maxRecDepth 20000 in
theorem ggX6_layAll_X6_layReach : GoodIn wsX6_layAll wsX6_layReach := goodIn_r _ [27, 10, 28, 29, 1, 2, 5, 6, 7, 8, 9, 17, 18, 19, 30, 31, 32, 33, 34, 35, 36, 37, 38, 39, 40, 41, 42, 43, 44, 45, 46, 47, 48, 49, 50, 51, 52, 53, 54] (by decide +kernel) (by decide +kernel)
set_option maxRecDepth 20000 in
theorem gX6_layAll_X6_layReach : GoodIn wsX6_layAll (wsV RX6 87 RX6 yX6_layReach wsX6_layReach) := goodIn_app (goodIn_of _ (by decide +kernel)) ggX6_layAll_X6_layReach
theorem dX6_layAll_0 : decode cX6_layAll 0 = .ok (.iconst 0, 1) := by decide +kernel
theorem dX6_layAll_1 : decode cX6_layAll 1 = .ok (.istore_n 1, 1) := by decide +kernel
theorem dX6_layAll_2 : decode cX6_layAll 2 = .ok (.iload_n 1, 1) := by decide +kernel
theorem dX6_layAll_3 : decode cX6_layAll 3 = .ok (.bipush 32, 2) := by decide +kernel
theorem dX6_layAll_5 : decode cX6_layAll 5 = .ok (.if_icmp .ge 18, 3) := by decide +kernel
theorem dX6_layAll_8 : decode cX6_layAll 8 = .ok (.aload_n 0, 1) := by decide +kernel
theorem dX6_layAll_9 : decode cX6_layAll 9 = .ok (.getfield 29, 3) := by decide +kernel
theorem dX6_layAll_12 : decode cX6_layAll 12 = .ok (.iload_n 1, 1) := by decide +kernel
theorem dX6_layAll_13 : decode cX6_layAll 13 = .ok (.sipush (-1001), 3) := by decide +kernel
theorem dX6_layAll_16 : decode cX6_layAll 16 = .ok (.iastore, 1) := by decide +kernel
theorem dX6_layAll_17 : decode cX6_layAll 17 = .ok (.iinc 1 1, 3) := by decide +kernel
theorem dX6_layAll_20 : decode cX6_layAll 20 = .ok (.goto (-18), 3) := by decide +kernel
theorem dX6_layAll_23 : decode cX6_layAll 23 = .ok (.iconst 0, 1) := by decide +kernel
theorem dX6_layAll_24 : decode cX6_layAll 24 = .ok (.istore_n 1, 1) := by decide +kernel
theorem dX6_layAll_25 : decode cX6_layAll 25 = .ok (.iconst 0, 1) := by decide +kernel
theorem dX6_layAll_26 : decode cX6_layAll 26 = .ok (.istore_n 2, 1) := by decide +kernel
theorem dX6_layAll_27 : decode cX6_layAll 27 = .ok (.iload_n 2, 1) := by decide +kernel
theorem dX6_layAll_28 : decode cX6_layAll 28 = .ok (.aload_n 0, 1) := by decide +kernel
theorem dX6_layAll_29 : decode cX6_layAll 29 = .ok (.invokevirtual 72, 3) := by decide +kernel
theorem dX6_layAll_32 : decode cX6_layAll 32 = .ok (.if_icmp .ge 81, 3) := by decide +kernel
theorem dX6_layAll_35 : decode cX6_layAll 35 = .ok (.aload_n 0, 1) := by decide +kernel
theorem dX6_layAll_36 : decode cX6_layAll 36 = .ok (.getfield 26, 3) := by decide +kernel
theorem dX6_layAll_39 : decode cX6_layAll 39 = .ok (.iload_n 2, 1) := by decide +kernel
theorem dX6_layAll_40 : decode cX6_layAll 40 = .ok (.aload_n 0, 1) := by decide +kernel
theorem dX6_layAll_41 : decode cX6_layAll 41 = .ok (.iload_n 2, 1) := by decide +kernel
theorem dX6_layAll_42 : decode cX6_layAll 42 = .ok (.invokevirtual 75, 3) := by decide +kernel
theorem dX6_layAll_45 : decode cX6_layAll 45 = .ok (.iastore, 1) := by decide +kernel
theorem dX6_layAll_46 : decode cX6_layAll 46 = .ok (.aload_n 0, 1) := by decide +kernel
theorem dX6_layAll_47 : decode cX6_layAll 47 = .ok (.getfield 29, 3) := by decide +kernel
theorem dX6_layAll_50 : decode cX6_layAll 50 = .ok (.aload_n 0, 1) := by decide +kernel
theorem dX6_layAll_51 : decode cX6_layAll 51 = .ok (.getfield 26, 3) := by decide +kernel
theorem dX6_layAll_54 : decode cX6_layAll 54 = .ok (.iload_n 2, 1) := by decide +kernel
theorem dX6_layAll_55 : decode cX6_layAll 55 = .ok (.iaload, 1) := by decide +kernel
theorem dX6_layAll_56 : decode cX6_layAll 56 = .ok (.iaload, 1) := by decide +kernel
theorem dX6_layAll_57 : decode cX6_layAll 57 = .ok (.istore_n 3, 1) := by decide +kernel
theorem dX6_layAll_58 : decode cX6_layAll 58 = .ok (.iload_n 1, 1) := by decide +kernel
theorem dX6_layAll_59 : decode cX6_layAll 59 = .ok (.iload_n 3, 1) := by decide +kernel
theorem dX6_layAll_60 : decode cX6_layAll 60 = .ok (.sipush (-1001), 3) := by decide +kernel
theorem dX6_layAll_63 : decode cX6_layAll 63 = .ok (.if_icmp .ne 7, 3) := by decide +kernel
theorem dX6_layAll_66 : decode cX6_layAll 66 = .ok (.iconst 1, 1) := by decide +kernel
theorem dX6_layAll_67 : decode cX6_layAll 67 = .ok (.goto 4, 3) := by decide +kernel
theorem dX6_layAll_70 : decode cX6_layAll 70 = .ok (.iconst 0, 1) := by decide +kernel
theorem dX6_layAll_71 : decode cX6_layAll 71 = .ok (.iadd, 1) := by decide +kernel
theorem dX6_layAll_72 : decode cX6_layAll 72 = .ok (.istore_n 1, 1) := by decide +kernel
theorem dX6_layAll_73 : decode cX6_layAll 73 = .ok (.aload_n 0, 1) := by decide +kernel
theorem dX6_layAll_74 : decode cX6_layAll 74 = .ok (.getfield 29, 3) := by decide +kernel
theorem dX6_layAll_77 : decode cX6_layAll 77 = .ok (.aload_n 0, 1) := by decide +kernel
theorem dX6_layAll_78 : decode cX6_layAll 78 = .ok (.getfield 26, 3) := by decide +kernel
theorem dX6_layAll_81 : decode cX6_layAll 81 = .ok (.iload_n 2, 1) := by decide +kernel
theorem dX6_layAll_82 : decode cX6_layAll 82 = .ok (.iaload, 1) := by decide +kernel
theorem dX6_layAll_83 : decode cX6_layAll 83 = .ok (.iload_n 3, 1) := by decide +kernel
theorem dX6_layAll_84 : decode cX6_layAll 84 = .ok (.sipush (-1001), 3) := by decide +kernel
theorem dX6_layAll_87 : decode cX6_layAll 87 = .ok (.if_icmp .eq 14, 3) := by decide +kernel
theorem dX6_layAll_90 : decode cX6_layAll 90 = .ok (.iload_n 2, 1) := by decide +kernel
theorem dX6_layAll_91 : decode cX6_layAll 91 = .ok (.invokestatic 68, 3) := by decide +kernel
theorem dX6_layAll_94 : decode cX6_layAll 94 = .ok (.iload_n 3, 1) := by decide +kernel
theorem dX6_layAll_95 : decode cX6_layAll 95 = .ok (.invokestatic 68, 3) := by decide +kernel
theorem dX6_layAll_98 : decode cX6_layAll 98 = .ok (.if_icmp .ge 7, 3) := by decide +kernel
theorem dX6_layAll_101 : decode cX6_layAll 101 = .ok (.iload_n 2, 1) := by decide +kernel
theorem dX6_layAll_102 : decode cX6_layAll 102 = .ok (.goto 4, 3) := by decide +kernel
theorem dX6_layAll_105 : decode cX6_layAll 105 = .ok (.iload_n 3, 1) := by decide +kernel
theorem dX6_layAll_106 : decode cX6_layAll 106 = .ok (.iastore, 1) := by decide +kernel
theorem dX6_layAll_107 : decode cX6_layAll 107 = .ok (.iinc 2 1, 3) := by decide +kernel
theorem dX6_layAll_110 : decode cX6_layAll 110 = .ok (.goto (-83), 3) := by decide +kernel
theorem dX6_layAll_113 : decode cX6_layAll 113 = .ok (.aload_n 0, 1) := by decide +kernel
theorem dX6_layAll_114 : decode cX6_layAll 114 = .ok (.iconst 0, 1) := by decide +kernel
theorem dX6_layAll_115 : decode cX6_layAll 115 = .ok (.putfield 78, 3) := by decide +kernel
theorem dX6_layAll_118 : decode cX6_layAll 118 = .ok (.iconst 1, 1) := by decide +kernel
theorem dX6_layAll_119 : decode cX6_layAll 119 = .ok (.aload_n 0, 1) := by decide +kernel
theorem dX6_layAll_120 : decode cX6_layAll 120 = .ok (.getfield 78, 3) := by decide +kernel
theorem dX6_layAll_123 : decode cX6_layAll 123 = .ok (.ishl, 1) := by decide +kernel
theorem dX6_layAll_124 : decode cX6_layAll 124 = .ok (.iload_n 1, 1) := by decide +kernel
theorem dX6_layAll_125 : decode cX6_layAll 125 = .ok (.if_icmp .ge 16, 3) := by decide +kernel
theorem dX6_layAll_128 : decode cX6_layAll 128 = .ok (.aload_n 0, 1) := by decide +kernel
theorem dX6_layAll_129 : decode cX6_layAll 129 = .ok (.dup, 1) := by decide +kernel
theorem dX6_layAll_130 : decode cX6_layAll 130 = .ok (.getfield 78, 3) := by decide +kernel
theorem dX6_layAll_133 : decode cX6_layAll 133 = .ok (.iconst 1, 1) := by decide +kernel
theorem dX6_layAll_134 : decode cX6_layAll 134 = .ok (.iadd, 1) := by decide +kernel
theorem dX6_layAll_135 : decode cX6_layAll 135 = .ok (.putfield 78, 3) := by decide +kernel
theorem dX6_layAll_138 : decode cX6_layAll 138 = .ok (.goto (-20), 3) := by decide +kernel
theorem dX6_layAll_141 : decode cX6_layAll 141 = .ok (.aload_n 0, 1) := by decide +kernel
theorem dX6_layAll_142 : decode cX6_layAll 142 = .ok (.aload_n 0, 1) := by decide +kernel
theorem dX6_layAll_143 : decode cX6_layAll 143 = .ok (.invokevirtual 81, 3) := by decide +kernel
theorem dX6_layAll_146 : decode cX6_layAll 146 = .ok (.putfield 84, 3) := by decide +kernel
theorem dX6_layAll_149 : decode cX6_layAll 149 = .ok (.aload_n 0, 1) := by decide +kernel
theorem dX6_layAll_150 : decode cX6_layAll 150 = .ok (.invokevirtual 87, 3) := by decide +kernel
theorem dX6_layAll_153 : decode cX6_layAll 153 = .ok (.return_, 1) := by decide +kernel
set_option maxRecDepth 20000 in
theorem ggX6_distanceNow_X6_words : GoodIn wsX6_distanceNow wsX6_words := goodIn_r _ [5, 6, 16, 17, 18, 19, 20, 21, 22, 23, 24, 25, 26, 27, 28, 29, 30, 31, 32, 33, 34, 35, 36] (by decide +kernel) (by decide +kernel)
set_option maxRecDepth 20000 in
theorem gX6_distanceNow_X6_words : GoodIn wsX6_distanceNow (wsV RX6 72 RX6 yX6_words wsX6_words) := goodIn_app (goodIn_of _ (by decide +kernel)) ggX6_distanceNow_X6_words
set_option maxRecDepth 20000 in
theorem ggX6_distanceNow_X6_syndromeBy : GoodIn wsX6_distanceNow wsX6_syndromeBy := goodIn_r _ [10, 11, 12, 13, 14, 4, 15, 16, 17, 18, 19, 20, 21, 22, 23, 24, 25, 26, 27, 28, 29, 30, 31, 32, 33, 34, 35, 36] (by decide +kernel) (by decide +kernel)
set_option maxRecDepth 20000 in
theorem gX6_distanceNow_X6_syndromeBy : GoodIn wsX6_distanceNow (wsV RX6 75 RX6 yX6_syndromeBy wsX6_syndromeBy) := goodIn_app (goodIn_of _ (by decide +kernel)) ggX6_distanceNow_X6_syndromeBy
set_option maxRecDepth 20000 in
theorem ggX6_distanceNow_X6_ones : GoodIn wsX6_distanceNow wsX6_ones := goodIn_r _ [15] (by decide +kernel) (by decide +kernel)
set_option maxRecDepth 20000 in
theorem gX6_distanceNow_X6_ones : GoodIn wsX6_distanceNow (va_wsS RX6 68 yX6_ones wsX6_ones) := goodIn_app (goodIn_of _ (by decide +kernel)) ggX6_distanceNow_X6_ones
theorem dX6_distanceNow_0 : decode cX6_distanceNow 0 = .ok (.sipush (-1001), 3) := by decide +kernel
theorem dX6_distanceNow_3 : decode cX6_distanceNow 3 = .ok (.istore_n 1, 1) := by decide +kernel
theorem dX6_distanceNow_4 : decode cX6_distanceNow 4 = .ok (.iconst 1, 1) := by decide +kernel
theorem dX6_distanceNow_5 : decode cX6_distanceNow 5 = .ok (.istore_n 2, 1) := by decide +kernel
theorem dX6_distanceNow_6 : decode cX6_distanceNow 6 = .ok (.iload_n 2, 1) := by decide +kernel
theorem dX6_distanceNow_7 : decode cX6_distanceNow 7 = .ok (.aload_n 0, 1) := by decide +kernel
theorem dX6_distanceNow_8 : decode cX6_distanceNow 8 = .ok (.invokevirtual 72, 3) := by decide +kernel
theorem dX6_distanceNow_11 : decode cX6_distanceNow 11 = .ok (.if_icmp .ge 41, 3) := by decide +kernel
theorem dX6_distanceNow_14 : decode cX6_distanceNow 14 = .ok (.aload_n 0, 1) := by decide +kernel
theorem dX6_distanceNow_15 : decode cX6_distanceNow 15 = .ok (.iload_n 2, 1) := by decide +kernel
theorem dX6_distanceNow_16 : decode cX6_distanceNow 16 = .ok (.invokevirtual 75, 3) := by decide +kernel
theorem dX6_distanceNow_19 : decode cX6_distanceNow 19 = .ok (.ifCond .ne 25, 3) := by decide +kernel
theorem dX6_distanceNow_22 : decode cX6_distanceNow 22 = .ok (.iload_n 1, 1) := by decide +kernel
theorem dX6_distanceNow_23 : decode cX6_distanceNow 23 = .ok (.sipush (-1001), 3) := by decide +kernel
theorem dX6_distanceNow_26 : decode cX6_distanceNow 26 = .ok (.if_icmp .eq 11, 3) := by decide +kernel
theorem dX6_distanceNow_29 : decode cX6_distanceNow 29 = .ok (.iload_n 2, 1) := by decide +kernel
theorem dX6_distanceNow_30 : decode cX6_distanceNow 30 = .ok (.invokestatic 68, 3) := by decide +kernel
theorem dX6_distanceNow_33 : decode cX6_distanceNow 33 = .ok (.iload_n 1, 1) := by decide +kernel
theorem dX6_distanceNow_34 : decode cX6_distanceNow 34 = .ok (.if_icmp .ge 10, 3) := by decide +kernel
theorem dX6_distanceNow_37 : decode cX6_distanceNow 37 = .ok (.iload_n 2, 1) := by decide +kernel
theorem dX6_distanceNow_38 : decode cX6_distanceNow 38 = .ok (.invokestatic 68, 3) := by decide +kernel
theorem dX6_distanceNow_41 : decode cX6_distanceNow 41 = .ok (.goto 4, 3) := by decide +kernel
theorem dX6_distanceNow_44 : decode cX6_distanceNow 44 = .ok (.iload_n 1, 1) := by decide +kernel
theorem dX6_distanceNow_45 : decode cX6_distanceNow 45 = .ok (.istore_n 1, 1) := by decide +kernel
theorem dX6_distanceNow_46 : decode cX6_distanceNow 46 = .ok (.iinc 2 1, 3) := by decide +kernel
theorem dX6_distanceNow_49 : decode cX6_distanceNow 49 = .ok (.goto (-43), 3) := by decide +kernel
theorem dX6_distanceNow_52 : decode cX6_distanceNow 52 = .ok (.iload_n 1, 1) := by decide +kernel
theorem dX6_distanceNow_53 : decode cX6_distanceNow 53 = .ok (.ireturn, 1) := by decide +kernel
set_option maxRecDepth 20000 in
theorem ggX6_isSole_X6_words : GoodIn wsX6_isSole wsX6_words := goodIn_r _ [6, 7, 11, 12, 13, 14, 15, 16, 17, 18, 19, 20, 21, 22, 23, 24, 25, 26, 27, 28, 29, 30, 31] (by decide +kernel) (by decide +kernel)
set_option maxRecDepth 20000 in
theorem gX6_isSole_X6_words : GoodIn wsX6_isSole (wsV RX6 72 RX6 yX6_words wsX6_words) := goodIn_app (goodIn_of _ (by decide +kernel)) ggX6_isSole_X6_words
set_option maxRecDepth 20000 in
theorem ggX6_isSole_X6_ones : GoodIn wsX6_isSole wsX6_ones := goodIn_r _ [10] (by decide +kernel) (by decide +kernel)
set_option maxRecDepth 20000 in
theorem gX6_isSole_X6_ones : GoodIn wsX6_isSole (va_wsS RX6 68 yX6_ones wsX6_ones) := goodIn_app (goodIn_of _ (by decide +kernel)) ggX6_isSole_X6_ones
theorem dX6_isSole_0 : decode cX6_isSole 0 = .ok (.iconst 0, 1) := by decide +kernel
theorem dX6_isSole_1 : decode cX6_isSole 1 = .ok (.istore_n 2, 1) := by decide +kernel
theorem dX6_isSole_2 : decode cX6_isSole 2 = .ok (.iconst 0, 1) := by decide +kernel
theorem dX6_isSole_3 : decode cX6_isSole 3 = .ok (.istore_n 3, 1) := by decide +kernel
theorem dX6_isSole_4 : decode cX6_isSole 4 = .ok (.iload_n 3, 1) := by decide +kernel
theorem dX6_isSole_5 : decode cX6_isSole 5 = .ok (.aload_n 0, 1) := by decide +kernel
theorem dX6_isSole_6 : decode cX6_isSole 6 = .ok (.invokevirtual 72, 3) := by decide +kernel
theorem dX6_isSole_9 : decode cX6_isSole 9 = .ok (.if_icmp .ge 48, 3) := by decide +kernel
theorem dX6_isSole_12 : decode cX6_isSole 12 = .ok (.iload_n 2, 1) := by decide +kernel
theorem dX6_isSole_13 : decode cX6_isSole 13 = .ok (.aload_n 0, 1) := by decide +kernel
theorem dX6_isSole_14 : decode cX6_isSole 14 = .ok (.getfield 26, 3) := by decide +kernel
theorem dX6_isSole_17 : decode cX6_isSole 17 = .ok (.iload_n 3, 1) := by decide +kernel
theorem dX6_isSole_18 : decode cX6_isSole 18 = .ok (.iaload, 1) := by decide +kernel
theorem dX6_isSole_19 : decode cX6_isSole 19 = .ok (.aload_n 0, 1) := by decide +kernel
theorem dX6_isSole_20 : decode cX6_isSole 20 = .ok (.getfield 26, 3) := by decide +kernel
theorem dX6_isSole_23 : decode cX6_isSole 23 = .ok (.iload_n 1, 1) := by decide +kernel
theorem dX6_isSole_24 : decode cX6_isSole 24 = .ok (.iaload, 1) := by decide +kernel
theorem dX6_isSole_25 : decode cX6_isSole 25 = .ok (.if_icmp .ne 23, 3) := by decide +kernel
theorem dX6_isSole_28 : decode cX6_isSole 28 = .ok (.iload_n 3, 1) := by decide +kernel
theorem dX6_isSole_29 : decode cX6_isSole 29 = .ok (.iload_n 1, 1) := by decide +kernel
theorem dX6_isSole_30 : decode cX6_isSole 30 = .ok (.if_icmp .eq 18, 3) := by decide +kernel
theorem dX6_isSole_33 : decode cX6_isSole 33 = .ok (.iload_n 3, 1) := by decide +kernel
theorem dX6_isSole_34 : decode cX6_isSole 34 = .ok (.invokestatic 68, 3) := by decide +kernel
theorem dX6_isSole_37 : decode cX6_isSole 37 = .ok (.iload_n 1, 1) := by decide +kernel
theorem dX6_isSole_38 : decode cX6_isSole 38 = .ok (.invokestatic 68, 3) := by decide +kernel
theorem dX6_isSole_41 : decode cX6_isSole 41 = .ok (.if_icmp .gt 7, 3) := by decide +kernel
theorem dX6_isSole_44 : decode cX6_isSole 44 = .ok (.iconst 1, 1) := by decide +kernel
theorem dX6_isSole_45 : decode cX6_isSole 45 = .ok (.goto 4, 3) := by decide +kernel
theorem dX6_isSole_48 : decode cX6_isSole 48 = .ok (.iconst 0, 1) := by decide +kernel
theorem dX6_isSole_49 : decode cX6_isSole 49 = .ok (.iadd, 1) := by decide +kernel
theorem dX6_isSole_50 : decode cX6_isSole 50 = .ok (.istore_n 2, 1) := by decide +kernel
theorem dX6_isSole_51 : decode cX6_isSole 51 = .ok (.iinc 3 1, 3) := by decide +kernel
theorem dX6_isSole_54 : decode cX6_isSole 54 = .ok (.goto (-50), 3) := by decide +kernel
theorem dX6_isSole_57 : decode cX6_isSole 57 = .ok (.iload_n 2, 1) := by decide +kernel
theorem dX6_isSole_58 : decode cX6_isSole 58 = .ok (.ifCond .ne 7, 3) := by decide +kernel
theorem dX6_isSole_61 : decode cX6_isSole 61 = .ok (.iconst 1, 1) := by decide +kernel
theorem dX6_isSole_62 : decode cX6_isSole 62 = .ok (.goto 4, 3) := by decide +kernel
theorem dX6_isSole_65 : decode cX6_isSole 65 = .ok (.iconst 0, 1) := by decide +kernel
theorem dX6_isSole_66 : decode cX6_isSole 66 = .ok (.ireturn, 1) := by decide +kernel
set_option maxRecDepth 20000 in
theorem ggX6_layReach_X6_words : GoodIn wsX6_layReach wsX6_words := goodIn_r _ [10, 1, 18, 19, 20, 21, 22, 23, 24, 25, 26, 27, 28, 29, 30, 31, 32, 33, 34, 35, 36, 37, 38] (by decide +kernel) (by decide +kernel)
set_option maxRecDepth 20000 in
theorem gX6_layReach_X6_words : GoodIn wsX6_layReach (wsV RX6 72 RX6 yX6_words wsX6_words) := goodIn_app (goodIn_of _ (by decide +kernel)) ggX6_layReach_X6_words
set_option maxRecDepth 20000 in
theorem ggX6_layReach_X6_ones : GoodIn wsX6_layReach wsX6_ones := goodIn_r _ [13] (by decide +kernel) (by decide +kernel)
set_option maxRecDepth 20000 in
theorem gX6_layReach_X6_ones : GoodIn wsX6_layReach (va_wsS RX6 68 yX6_ones wsX6_ones) := goodIn_app (goodIn_of _ (by decide +kernel)) ggX6_layReach_X6_ones
set_option maxRecDepth 20000 in
theorem ggX6_layReach_X6_isSole : GoodIn wsX6_layReach wsX6_isSole := goodIn_r _ [17, 5, 6, 7, 8, 9, 10, 1, 11, 12, 13, 18, 19, 20, 21, 22, 23, 24, 25, 26, 27, 28, 29, 30, 31, 32, 33, 34, 35, 36, 37, 38] (by decide +kernel) (by decide +kernel)
set_option maxRecDepth 20000 in
theorem gX6_layReach_X6_isSole : GoodIn wsX6_layReach (wsV RX6 96 RX6 yX6_isSole wsX6_isSole) := goodIn_app (goodIn_of _ (by decide +kernel)) ggX6_layReach_X6_isSole
theorem dX6_layReach_0 : decode cX6_layReach 0 = .ok (.aload_n 0, 1) := by decide +kernel
theorem dX6_layReach_1 : decode cX6_layReach 1 = .ok (.aload_n 0, 1) := by decide +kernel
theorem dX6_layReach_2 : decode cX6_layReach 2 = .ok (.getfield 59, 3) := by decide +kernel
theorem dX6_layReach_5 : decode cX6_layReach 5 = .ok (.putfield 90, 3) := by decide +kernel
theorem dX6_layReach_8 : decode cX6_layReach 8 = .ok (.aload_n 0, 1) := by decide +kernel
theorem dX6_layReach_9 : decode cX6_layReach 9 = .ok (.iconst 0, 1) := by decide +kernel
theorem dX6_layReach_10 : decode cX6_layReach 10 = .ok (.putfield 93, 3) := by decide +kernel
theorem dX6_layReach_13 : decode cX6_layReach 13 = .ok (.iconst 0, 1) := by decide +kernel
theorem dX6_layReach_14 : decode cX6_layReach 14 = .ok (.istore_n 1, 1) := by decide +kernel
theorem dX6_layReach_15 : decode cX6_layReach 15 = .ok (.iload_n 1, 1) := by decide +kernel
theorem dX6_layReach_16 : decode cX6_layReach 16 = .ok (.aload_n 0, 1) := by decide +kernel
theorem dX6_layReach_17 : decode cX6_layReach 17 = .ok (.invokevirtual 72, 3) := by decide +kernel
theorem dX6_layReach_20 : decode cX6_layReach 20 = .ok (.if_icmp .ge 79, 3) := by decide +kernel
theorem dX6_layReach_23 : decode cX6_layReach 23 = .ok (.iload_n 1, 1) := by decide +kernel
theorem dX6_layReach_24 : decode cX6_layReach 24 = .ok (.invokestatic 68, 3) := by decide +kernel
theorem dX6_layReach_27 : decode cX6_layReach 27 = .ok (.aload_n 0, 1) := by decide +kernel
theorem dX6_layReach_28 : decode cX6_layReach 28 = .ok (.getfield 90, 3) := by decide +kernel
theorem dX6_layReach_31 : decode cX6_layReach 31 = .ok (.if_icmp .gt 21, 3) := by decide +kernel
theorem dX6_layReach_34 : decode cX6_layReach 34 = .ok (.aload_n 0, 1) := by decide +kernel
theorem dX6_layReach_35 : decode cX6_layReach 35 = .ok (.iload_n 1, 1) := by decide +kernel
theorem dX6_layReach_36 : decode cX6_layReach 36 = .ok (.invokevirtual 96, 3) := by decide +kernel
theorem dX6_layReach_39 : decode cX6_layReach 39 = .ok (.ifCond .ne 13, 3) := by decide +kernel
theorem dX6_layReach_42 : decode cX6_layReach 42 = .ok (.aload_n 0, 1) := by decide +kernel
theorem dX6_layReach_43 : decode cX6_layReach 43 = .ok (.iload_n 1, 1) := by decide +kernel
theorem dX6_layReach_44 : decode cX6_layReach 44 = .ok (.invokestatic 68, 3) := by decide +kernel
theorem dX6_layReach_47 : decode cX6_layReach 47 = .ok (.iconst 1, 1) := by decide +kernel
theorem dX6_layReach_48 : decode cX6_layReach 48 = .ok (.isub, 1) := by decide +kernel
theorem dX6_layReach_49 : decode cX6_layReach 49 = .ok (.putfield 90, 3) := by decide +kernel
theorem dX6_layReach_52 : decode cX6_layReach 52 = .ok (.aload_n 0, 1) := by decide +kernel
theorem dX6_layReach_53 : decode cX6_layReach 53 = .ok (.aload_n 0, 1) := by decide +kernel
theorem dX6_layReach_54 : decode cX6_layReach 54 = .ok (.getfield 29, 3) := by decide +kernel
theorem dX6_layReach_57 : decode cX6_layReach 57 = .ok (.aload_n 0, 1) := by decide +kernel
theorem dX6_layReach_58 : decode cX6_layReach 58 = .ok (.getfield 26, 3) := by decide +kernel
theorem dX6_layReach_61 : decode cX6_layReach 61 = .ok (.iload_n 1, 1) := by decide +kernel
theorem dX6_layReach_62 : decode cX6_layReach 62 = .ok (.iaload, 1) := by decide +kernel
theorem dX6_layReach_63 : decode cX6_layReach 63 = .ok (.iaload, 1) := by decide +kernel
theorem dX6_layReach_64 : decode cX6_layReach 64 = .ok (.iload_n 1, 1) := by decide +kernel
theorem dX6_layReach_65 : decode cX6_layReach 65 = .ok (.if_icmp .ne 21, 3) := by decide +kernel
theorem dX6_layReach_68 : decode cX6_layReach 68 = .ok (.iload_n 1, 1) := by decide +kernel
theorem dX6_layReach_69 : decode cX6_layReach 69 = .ok (.invokestatic 68, 3) := by decide +kernel
theorem dX6_layReach_72 : decode cX6_layReach 72 = .ok (.aload_n 0, 1) := by decide +kernel
theorem dX6_layReach_73 : decode cX6_layReach 73 = .ok (.getfield 93, 3) := by decide +kernel
theorem dX6_layReach_76 : decode cX6_layReach 76 = .ok (.if_icmp .le 10, 3) := by decide +kernel
theorem dX6_layReach_79 : decode cX6_layReach 79 = .ok (.iload_n 1, 1) := by decide +kernel
theorem dX6_layReach_80 : decode cX6_layReach 80 = .ok (.invokestatic 68, 3) := by decide +kernel
theorem dX6_layReach_83 : decode cX6_layReach 83 = .ok (.goto 7, 3) := by decide +kernel
theorem dX6_layReach_86 : decode cX6_layReach 86 = .ok (.aload_n 0, 1) := by decide +kernel
theorem dX6_layReach_87 : decode cX6_layReach 87 = .ok (.getfield 93, 3) := by decide +kernel
theorem dX6_layReach_90 : decode cX6_layReach 90 = .ok (.putfield 93, 3) := by decide +kernel
theorem dX6_layReach_93 : decode cX6_layReach 93 = .ok (.iinc 1 1, 3) := by decide +kernel
theorem dX6_layReach_96 : decode cX6_layReach 96 = .ok (.goto (-81), 3) := by decide +kernel
theorem dX6_layReach_99 : decode cX6_layReach 99 = .ok (.return_, 1) := by decide +kernel
theorem dX6_codeNow_0 : decode cX6_codeNow 0 = .ok (.iload_n 1, 1) := by decide +kernel
theorem dX6_codeNow_1 : decode cX6_codeNow 1 = .ok (.tableswitch 69 0 5 #[39, 44, 49, 54, 59, 64], 39) := by decide +kernel
theorem dX6_codeNow_40 : decode cX6_codeNow 40 = .ok (.aload_n 0, 1) := by decide +kernel
theorem dX6_codeNow_41 : decode cX6_codeNow 41 = .ok (.getfield 59, 3) := by decide +kernel
theorem dX6_codeNow_44 : decode cX6_codeNow 44 = .ok (.ireturn, 1) := by decide +kernel
theorem dX6_codeNow_45 : decode cX6_codeNow 45 = .ok (.aload_n 0, 1) := by decide +kernel
theorem dX6_codeNow_46 : decode cX6_codeNow 46 = .ok (.getfield 56, 3) := by decide +kernel
theorem dX6_codeNow_49 : decode cX6_codeNow 49 = .ok (.ireturn, 1) := by decide +kernel
theorem dX6_codeNow_50 : decode cX6_codeNow 50 = .ok (.aload_n 0, 1) := by decide +kernel
theorem dX6_codeNow_51 : decode cX6_codeNow 51 = .ok (.getfield 78, 3) := by decide +kernel
theorem dX6_codeNow_54 : decode cX6_codeNow 54 = .ok (.ireturn, 1) := by decide +kernel
theorem dX6_codeNow_55 : decode cX6_codeNow 55 = .ok (.aload_n 0, 1) := by decide +kernel
theorem dX6_codeNow_56 : decode cX6_codeNow 56 = .ok (.getfield 84, 3) := by decide +kernel
theorem dX6_codeNow_59 : decode cX6_codeNow 59 = .ok (.ireturn, 1) := by decide +kernel
theorem dX6_codeNow_60 : decode cX6_codeNow 60 = .ok (.aload_n 0, 1) := by decide +kernel
theorem dX6_codeNow_61 : decode cX6_codeNow 61 = .ok (.getfield 90, 3) := by decide +kernel
theorem dX6_codeNow_64 : decode cX6_codeNow 64 = .ok (.ireturn, 1) := by decide +kernel
theorem dX6_codeNow_65 : decode cX6_codeNow 65 = .ok (.aload_n 0, 1) := by decide +kernel
theorem dX6_codeNow_66 : decode cX6_codeNow 66 = .ok (.getfield 93, 3) := by decide +kernel
theorem dX6_codeNow_69 : decode cX6_codeNow 69 = .ok (.ireturn, 1) := by decide +kernel
theorem dX6_codeNow_70 : decode cX6_codeNow 70 = .ok (.aload_n 0, 1) := by decide +kernel
theorem dX6_codeNow_71 : decode cX6_codeNow 71 = .ok (.getfield 93, 3) := by decide +kernel
theorem dX6_codeNow_74 : decode cX6_codeNow 74 = .ok (.aload_n 0, 1) := by decide +kernel
theorem dX6_codeNow_75 : decode cX6_codeNow 75 = .ok (.getfield 90, 3) := by decide +kernel
theorem dX6_codeNow_78 : decode cX6_codeNow 78 = .ok (.if_icmp .ne 7, 3) := by decide +kernel
theorem dX6_codeNow_81 : decode cX6_codeNow 81 = .ok (.iconst 1, 1) := by decide +kernel
theorem dX6_codeNow_82 : decode cX6_codeNow 82 = .ok (.goto 4, 3) := by decide +kernel
theorem dX6_codeNow_85 : decode cX6_codeNow 85 = .ok (.iconst 0, 1) := by decide +kernel
theorem dX6_codeNow_86 : decode cX6_codeNow 86 = .ok (.ireturn, 1) := by decide +kernel
theorem dX6_isThere_0 : decode cX6_isThere 0 = .ok (.aload_n 0, 1) := by decide +kernel
theorem dX6_isThere_1 : decode cX6_isThere 1 = .ok (.getfield 56, 3) := by decide +kernel
theorem dX6_isThere_4 : decode cX6_isThere 4 = .ok (.ifCond .le 7, 3) := by decide +kernel
theorem dX6_isThere_7 : decode cX6_isThere 7 = .ok (.iconst 1, 1) := by decide +kernel
theorem dX6_isThere_8 : decode cX6_isThere 8 = .ok (.goto 4, 3) := by decide +kernel
theorem dX6_isThere_11 : decode cX6_isThere 11 = .ok (.iconst 0, 1) := by decide +kernel
theorem dX6_isThere_12 : decode cX6_isThere 12 = .ok (.ireturn, 1) := by decide +kernel
set_option maxRecDepth 20000 in
theorem ggX6_isWord_X6_words : GoodIn wsX6_isWord wsX6_words := goodIn_r _ [5, 6, 10, 11, 12, 13, 14, 15, 16, 17, 18, 19, 20, 21, 22, 23, 24, 25, 26, 27, 28, 29, 30] (by decide +kernel) (by decide +kernel)
set_option maxRecDepth 20000 in
theorem gX6_isWord_X6_words : GoodIn wsX6_isWord (wsV RX6 72 RX6 yX6_words wsX6_words) := goodIn_app (goodIn_of _ (by decide +kernel)) ggX6_isWord_X6_words
set_option maxRecDepth 20000 in
theorem ggX6_isWord_X6_within : GoodIn wsX6_isWord wsX6_within := goodIn_r _ [9] (by decide +kernel) (by decide +kernel)
set_option maxRecDepth 20000 in
theorem gX6_isWord_X6_within : GoodIn wsX6_isWord (va_wsS RX6 32 yX6_within wsX6_within) := goodIn_app (goodIn_of _ (by decide +kernel)) ggX6_isWord_X6_within
theorem dX6_isWord_0 : decode cX6_isWord 0 = .ok (.iload_n 1, 1) := by decide +kernel
theorem dX6_isWord_1 : decode cX6_isWord 1 = .ok (.iconst 0, 1) := by decide +kernel
theorem dX6_isWord_2 : decode cX6_isWord 2 = .ok (.aload_n 0, 1) := by decide +kernel
theorem dX6_isWord_3 : decode cX6_isWord 3 = .ok (.invokevirtual 72, 3) := by decide +kernel
theorem dX6_isWord_6 : decode cX6_isWord 6 = .ok (.iconst 1, 1) := by decide +kernel
theorem dX6_isWord_7 : decode cX6_isWord 7 = .ok (.isub, 1) := by decide +kernel
theorem dX6_isWord_8 : decode cX6_isWord 8 = .ok (.invokestatic 32, 3) := by decide +kernel
theorem dX6_isWord_11 : decode cX6_isWord 11 = .ok (.ireturn, 1) := by decide +kernel
set_option maxRecDepth 20000 in
theorem ggX6_code_X6_within : GoodIn wsX6_code wsX6_within := goodIn_r _ [4] (by decide +kernel) (by decide +kernel)
set_option maxRecDepth 20000 in
theorem gX6_code_X6_within : GoodIn wsX6_code (va_wsS RX6 32 yX6_within wsX6_within) := goodIn_app (goodIn_of _ (by decide +kernel)) ggX6_code_X6_within
set_option maxRecDepth 20000 in
theorem ggX6_code_X6_isThere : GoodIn wsX6_code wsX6_isThere := goodIn_r _ [8, 9, 19, 20, 21, 22, 23, 24, 25, 26, 27, 28, 29, 30, 31, 32, 33, 34, 35, 36, 37, 38, 39] (by decide +kernel) (by decide +kernel)
set_option maxRecDepth 20000 in
theorem gX6_code_X6_isThere : GoodIn wsX6_code (wsV RX6 99 RX6 yX6_isThere wsX6_isThere) := goodIn_app (goodIn_of _ (by decide +kernel)) ggX6_code_X6_isThere
set_option maxRecDepth 20000 in
theorem ggX6_code_X6_codeNow : GoodIn wsX6_code wsX6_codeNow := goodIn_r _ [13, 14, 9, 15, 16, 17, 18, 19, 20, 21, 22, 23, 24, 25, 26, 27, 28, 29, 30, 31, 32, 33, 34, 35, 36, 37, 38, 39] (by decide +kernel) (by decide +kernel)
set_option maxRecDepth 20000 in
theorem gX6_code_X6_codeNow : GoodIn wsX6_code (wsV RX6 103 RX6 yX6_codeNow wsX6_codeNow) := goodIn_app (goodIn_of _ (by decide +kernel)) ggX6_code_X6_codeNow
theorem dX6_code_0 : decode cX6_code 0 = .ok (.iload_n 1, 1) := by decide +kernel
theorem dX6_code_1 : decode cX6_code 1 = .ok (.iconst 0, 1) := by decide +kernel
theorem dX6_code_2 : decode cX6_code 2 = .ok (.bipush 6, 2) := by decide +kernel
theorem dX6_code_4 : decode cX6_code 4 = .ok (.invokestatic 32, 3) := by decide +kernel
theorem dX6_code_7 : decode cX6_code 7 = .ok (.ifCond .ne 7, 3) := by decide +kernel
theorem dX6_code_10 : decode cX6_code 10 = .ok (.sipush (-1002), 3) := by decide +kernel
theorem dX6_code_13 : decode cX6_code 13 = .ok (.ireturn, 1) := by decide +kernel
theorem dX6_code_14 : decode cX6_code 14 = .ok (.aload_n 0, 1) := by decide +kernel
theorem dX6_code_15 : decode cX6_code 15 = .ok (.invokevirtual 99, 3) := by decide +kernel
theorem dX6_code_18 : decode cX6_code 18 = .ok (.ifCond .eq 11, 3) := by decide +kernel
theorem dX6_code_21 : decode cX6_code 21 = .ok (.aload_n 0, 1) := by decide +kernel
theorem dX6_code_22 : decode cX6_code 22 = .ok (.iload_n 1, 1) := by decide +kernel
theorem dX6_code_23 : decode cX6_code 23 = .ok (.invokevirtual 103, 3) := by decide +kernel
theorem dX6_code_26 : decode cX6_code 26 = .ok (.goto 6, 3) := by decide +kernel
theorem dX6_code_29 : decode cX6_code 29 = .ok (.sipush (-1003), 3) := by decide +kernel
theorem dX6_code_32 : decode cX6_code 32 = .ok (.ireturn, 1) := by decide +kernel
set_option maxRecDepth 20000 in
theorem ggX6_row_X6_isThere : GoodIn wsX6_row wsX6_isThere := goodIn_r _ [7, 1, 11, 12, 13, 14, 15, 16, 17, 18, 19, 20, 21, 22, 23, 24, 25, 26, 27, 28, 29, 30, 31] (by decide +kernel) (by decide +kernel)
set_option maxRecDepth 20000 in
theorem gX6_row_X6_isThere : GoodIn wsX6_row (wsV RX6 99 RX6 yX6_isThere wsX6_isThere) := goodIn_app (goodIn_of _ (by decide +kernel)) ggX6_row_X6_isThere
set_option maxRecDepth 20000 in
theorem ggX6_row_X6_within : GoodIn wsX6_row wsX6_within := goodIn_r _ [10] (by decide +kernel) (by decide +kernel)
set_option maxRecDepth 20000 in
theorem gX6_row_X6_within : GoodIn wsX6_row (va_wsS RX6 32 yX6_within wsX6_within) := goodIn_app (goodIn_of _ (by decide +kernel)) ggX6_row_X6_within
theorem dX6_row_0 : decode cX6_row 0 = .ok (.aload_n 0, 1) := by decide +kernel
theorem dX6_row_1 : decode cX6_row 1 = .ok (.invokevirtual 99, 3) := by decide +kernel
theorem dX6_row_4 : decode cX6_row 4 = .ok (.ifCond .ne 7, 3) := by decide +kernel
theorem dX6_row_7 : decode cX6_row 7 = .ok (.sipush (-1003), 3) := by decide +kernel
theorem dX6_row_10 : decode cX6_row 10 = .ok (.ireturn, 1) := by decide +kernel
theorem dX6_row_11 : decode cX6_row 11 = .ok (.iload_n 1, 1) := by decide +kernel
theorem dX6_row_12 : decode cX6_row 12 = .ok (.iconst 0, 1) := by decide +kernel
theorem dX6_row_13 : decode cX6_row 13 = .ok (.aload_n 0, 1) := by decide +kernel
theorem dX6_row_14 : decode cX6_row 14 = .ok (.getfield 56, 3) := by decide +kernel
theorem dX6_row_17 : decode cX6_row 17 = .ok (.iconst 1, 1) := by decide +kernel
theorem dX6_row_18 : decode cX6_row 18 = .ok (.isub, 1) := by decide +kernel
theorem dX6_row_19 : decode cX6_row 19 = .ok (.invokestatic 32, 3) := by decide +kernel
theorem dX6_row_22 : decode cX6_row 22 = .ok (.ifCond .eq 12, 3) := by decide +kernel
theorem dX6_row_25 : decode cX6_row 25 = .ok (.aload_n 0, 1) := by decide +kernel
theorem dX6_row_26 : decode cX6_row 26 = .ok (.getfield 13, 3) := by decide +kernel
theorem dX6_row_29 : decode cX6_row 29 = .ok (.iload_n 1, 1) := by decide +kernel
theorem dX6_row_30 : decode cX6_row 30 = .ok (.iaload, 1) := by decide +kernel
theorem dX6_row_31 : decode cX6_row 31 = .ok (.goto 6, 3) := by decide +kernel
theorem dX6_row_34 : decode cX6_row 34 = .ok (.sipush (-1002), 3) := by decide +kernel
theorem dX6_row_37 : decode cX6_row 37 = .ok (.ireturn, 1) := by decide +kernel
set_option maxRecDepth 20000 in
theorem ggX6_syndrome_X6_isThere : GoodIn wsX6_syndrome wsX6_isThere := goodIn_r _ [6, 7, 20, 21, 22, 23, 24, 25, 26, 27, 28, 29, 30, 31, 32, 33, 34, 35, 36, 37, 38, 39, 40] (by decide +kernel) (by decide +kernel)
set_option maxRecDepth 20000 in
theorem gX6_syndrome_X6_isThere : GoodIn wsX6_syndrome (wsV RX6 99 RX6 yX6_isThere wsX6_isThere) := goodIn_app (goodIn_of _ (by decide +kernel)) ggX6_syndrome_X6_isThere
set_option maxRecDepth 20000 in
theorem ggX6_syndrome_X6_isWord : GoodIn wsX6_syndrome wsX6_isWord := goodIn_r _ [11, 12, 13, 14, 5, 15, 16, 17, 18, 19, 20, 21, 22, 23, 24, 25, 26, 27, 28, 29, 30, 31, 32, 33, 34, 35, 36, 37, 38, 39, 40] (by decide +kernel) (by decide +kernel)
set_option maxRecDepth 20000 in
theorem gX6_syndrome_X6_isWord : GoodIn wsX6_syndrome (wsV RX6 106 RX6 yX6_isWord wsX6_isWord) := goodIn_app (goodIn_of _ (by decide +kernel)) ggX6_syndrome_X6_isWord
theorem dX6_syndrome_0 : decode cX6_syndrome 0 = .ok (.aload_n 0, 1) := by decide +kernel
theorem dX6_syndrome_1 : decode cX6_syndrome 1 = .ok (.invokevirtual 99, 3) := by decide +kernel
theorem dX6_syndrome_4 : decode cX6_syndrome 4 = .ok (.ifCond .ne 7, 3) := by decide +kernel
theorem dX6_syndrome_7 : decode cX6_syndrome 7 = .ok (.sipush (-1003), 3) := by decide +kernel
theorem dX6_syndrome_10 : decode cX6_syndrome 10 = .ok (.ireturn, 1) := by decide +kernel
theorem dX6_syndrome_11 : decode cX6_syndrome 11 = .ok (.aload_n 0, 1) := by decide +kernel
theorem dX6_syndrome_12 : decode cX6_syndrome 12 = .ok (.iload_n 1, 1) := by decide +kernel
theorem dX6_syndrome_13 : decode cX6_syndrome 13 = .ok (.invokevirtual 106, 3) := by decide +kernel
theorem dX6_syndrome_16 : decode cX6_syndrome 16 = .ok (.ifCond .eq 12, 3) := by decide +kernel
theorem dX6_syndrome_19 : decode cX6_syndrome 19 = .ok (.aload_n 0, 1) := by decide +kernel
theorem dX6_syndrome_20 : decode cX6_syndrome 20 = .ok (.getfield 26, 3) := by decide +kernel
theorem dX6_syndrome_23 : decode cX6_syndrome 23 = .ok (.iload_n 1, 1) := by decide +kernel
theorem dX6_syndrome_24 : decode cX6_syndrome 24 = .ok (.iaload, 1) := by decide +kernel
theorem dX6_syndrome_25 : decode cX6_syndrome 25 = .ok (.goto 6, 3) := by decide +kernel
theorem dX6_syndrome_28 : decode cX6_syndrome 28 = .ok (.sipush (-1002), 3) := by decide +kernel
theorem dX6_syndrome_31 : decode cX6_syndrome 31 = .ok (.ireturn, 1) := by decide +kernel
set_option maxRecDepth 20000 in
theorem ggX6_isSyndrome_X6_within : GoodIn wsX6_isSyndrome wsX6_within := goodIn_r _ [5] (by decide +kernel) (by decide +kernel)
set_option maxRecDepth 20000 in
theorem gX6_isSyndrome_X6_within : GoodIn wsX6_isSyndrome (va_wsS RX6 32 yX6_within wsX6_within) := goodIn_app (goodIn_of _ (by decide +kernel)) ggX6_isSyndrome_X6_within
theorem dX6_isSyndrome_0 : decode cX6_isSyndrome 0 = .ok (.iload_n 1, 1) := by decide +kernel
theorem dX6_isSyndrome_1 : decode cX6_isSyndrome 1 = .ok (.iconst 0, 1) := by decide +kernel
theorem dX6_isSyndrome_2 : decode cX6_isSyndrome 2 = .ok (.iconst 1, 1) := by decide +kernel
theorem dX6_isSyndrome_3 : decode cX6_isSyndrome 3 = .ok (.aload_n 0, 1) := by decide +kernel
theorem dX6_isSyndrome_4 : decode cX6_isSyndrome 4 = .ok (.getfield 56, 3) := by decide +kernel
theorem dX6_isSyndrome_7 : decode cX6_isSyndrome 7 = .ok (.ishl, 1) := by decide +kernel
theorem dX6_isSyndrome_8 : decode cX6_isSyndrome 8 = .ok (.iconst 1, 1) := by decide +kernel
theorem dX6_isSyndrome_9 : decode cX6_isSyndrome 9 = .ok (.isub, 1) := by decide +kernel
theorem dX6_isSyndrome_10 : decode cX6_isSyndrome 10 = .ok (.invokestatic 32, 3) := by decide +kernel
theorem dX6_isSyndrome_13 : decode cX6_isSyndrome 13 = .ok (.ireturn, 1) := by decide +kernel
set_option maxRecDepth 20000 in
theorem ggX6_leader_X6_isThere : GoodIn wsX6_leader wsX6_isThere := goodIn_r _ [6, 7, 15, 16, 17, 18, 19, 20, 21, 22, 23, 24, 25, 26, 27, 28, 29, 30, 31, 32, 33, 34, 35] (by decide +kernel) (by decide +kernel)
set_option maxRecDepth 20000 in
theorem gX6_leader_X6_isThere : GoodIn wsX6_leader (wsV RX6 99 RX6 yX6_isThere wsX6_isThere) := goodIn_app (goodIn_of _ (by decide +kernel)) ggX6_leader_X6_isThere
set_option maxRecDepth 20000 in
theorem ggX6_leader_X6_isSyndrome : GoodIn wsX6_leader wsX6_isSyndrome := goodIn_r _ [11, 7, 12, 13, 5, 14, 15, 16, 17, 18, 19, 20, 21, 22, 23, 24, 25, 26, 27, 28, 29, 30, 31, 32, 33, 34, 35] (by decide +kernel) (by decide +kernel)
set_option maxRecDepth 20000 in
theorem gX6_leader_X6_isSyndrome : GoodIn wsX6_leader (wsV RX6 109 RX6 yX6_isSyndrome wsX6_isSyndrome) := goodIn_app (goodIn_of _ (by decide +kernel)) ggX6_leader_X6_isSyndrome
theorem dX6_leader_0 : decode cX6_leader 0 = .ok (.aload_n 0, 1) := by decide +kernel
theorem dX6_leader_1 : decode cX6_leader 1 = .ok (.invokevirtual 99, 3) := by decide +kernel
theorem dX6_leader_4 : decode cX6_leader 4 = .ok (.ifCond .ne 7, 3) := by decide +kernel
theorem dX6_leader_7 : decode cX6_leader 7 = .ok (.sipush (-1003), 3) := by decide +kernel
theorem dX6_leader_10 : decode cX6_leader 10 = .ok (.ireturn, 1) := by decide +kernel
theorem dX6_leader_11 : decode cX6_leader 11 = .ok (.aload_n 0, 1) := by decide +kernel
theorem dX6_leader_12 : decode cX6_leader 12 = .ok (.iload_n 1, 1) := by decide +kernel
theorem dX6_leader_13 : decode cX6_leader 13 = .ok (.invokevirtual 109, 3) := by decide +kernel
theorem dX6_leader_16 : decode cX6_leader 16 = .ok (.ifCond .eq 12, 3) := by decide +kernel
theorem dX6_leader_19 : decode cX6_leader 19 = .ok (.aload_n 0, 1) := by decide +kernel
theorem dX6_leader_20 : decode cX6_leader 20 = .ok (.getfield 29, 3) := by decide +kernel
theorem dX6_leader_23 : decode cX6_leader 23 = .ok (.iload_n 1, 1) := by decide +kernel
theorem dX6_leader_24 : decode cX6_leader 24 = .ok (.iaload, 1) := by decide +kernel
theorem dX6_leader_25 : decode cX6_leader 25 = .ok (.goto 6, 3) := by decide +kernel
theorem dX6_leader_28 : decode cX6_leader 28 = .ok (.sipush (-1002), 3) := by decide +kernel
theorem dX6_leader_31 : decode cX6_leader 31 = .ok (.ireturn, 1) := by decide +kernel
set_option maxRecDepth 20000 in
theorem ggX6_cosetNow_X6_words : GoodIn wsX6_cosetNow wsX6_words := goodIn_r _ [6, 7, 8, 9, 10, 11, 12, 13, 14, 15, 16, 17, 18, 19, 20, 21, 22, 23, 24, 25, 26, 27, 28] (by decide +kernel) (by decide +kernel)
set_option maxRecDepth 20000 in
theorem gX6_cosetNow_X6_words : GoodIn wsX6_cosetNow (wsV RX6 72 RX6 yX6_words wsX6_words) := goodIn_app (goodIn_of _ (by decide +kernel)) ggX6_cosetNow_X6_words
theorem dX6_cosetNow_0 : decode cX6_cosetNow 0 = .ok (.iload_n 2, 1) := by decide +kernel
theorem dX6_cosetNow_1 : decode cX6_cosetNow 1 = .ok (.istore_n 3, 1) := by decide +kernel
theorem dX6_cosetNow_2 : decode cX6_cosetNow 2 = .ok (.iconst 0, 1) := by decide +kernel
theorem dX6_cosetNow_3 : decode cX6_cosetNow 3 = .ok (.istore 4, 2) := by decide +kernel
theorem dX6_cosetNow_5 : decode cX6_cosetNow 5 = .ok (.iload 4, 2) := by decide +kernel
theorem dX6_cosetNow_7 : decode cX6_cosetNow 7 = .ok (.aload_n 0, 1) := by decide +kernel
theorem dX6_cosetNow_8 : decode cX6_cosetNow 8 = .ok (.invokevirtual 72, 3) := by decide +kernel
theorem dX6_cosetNow_11 : decode cX6_cosetNow 11 = .ok (.if_icmp .ge 34, 3) := by decide +kernel
theorem dX6_cosetNow_14 : decode cX6_cosetNow 14 = .ok (.iload_n 3, 1) := by decide +kernel
theorem dX6_cosetNow_15 : decode cX6_cosetNow 15 = .ok (.ifCond .lt 30, 3) := by decide +kernel
theorem dX6_cosetNow_18 : decode cX6_cosetNow 18 = .ok (.aload_n 0, 1) := by decide +kernel
theorem dX6_cosetNow_19 : decode cX6_cosetNow 19 = .ok (.getfield 26, 3) := by decide +kernel
theorem dX6_cosetNow_22 : decode cX6_cosetNow 22 = .ok (.iload 4, 2) := by decide +kernel
theorem dX6_cosetNow_24 : decode cX6_cosetNow 24 = .ok (.iaload, 1) := by decide +kernel
theorem dX6_cosetNow_25 : decode cX6_cosetNow 25 = .ok (.iload_n 1, 1) := by decide +kernel
theorem dX6_cosetNow_26 : decode cX6_cosetNow 26 = .ok (.if_icmp .ne 13, 3) := by decide +kernel
theorem dX6_cosetNow_29 : decode cX6_cosetNow 29 = .ok (.iload_n 3, 1) := by decide +kernel
theorem dX6_cosetNow_30 : decode cX6_cosetNow 30 = .ok (.ifCond .ne 6, 3) := by decide +kernel
theorem dX6_cosetNow_33 : decode cX6_cosetNow 33 = .ok (.iload 4, 2) := by decide +kernel
theorem dX6_cosetNow_35 : decode cX6_cosetNow 35 = .ok (.ireturn, 1) := by decide +kernel
theorem dX6_cosetNow_36 : decode cX6_cosetNow 36 = .ok (.iinc 3 (-1), 3) := by decide +kernel
theorem dX6_cosetNow_39 : decode cX6_cosetNow 39 = .ok (.iinc 4 1, 3) := by decide +kernel
theorem dX6_cosetNow_42 : decode cX6_cosetNow 42 = .ok (.goto (-37), 3) := by decide +kernel
theorem dX6_cosetNow_45 : decode cX6_cosetNow 45 = .ok (.sipush (-1001), 3) := by decide +kernel
theorem dX6_cosetNow_48 : decode cX6_cosetNow 48 = .ok (.ireturn, 1) := by decide +kernel
set_option maxRecDepth 20000 in
theorem ggX6_coset_X6_isThere : GoodIn wsX6_coset wsX6_isThere := goodIn_r _ [5, 6, 24, 25, 26, 27, 28, 29, 30, 31, 32, 33, 34, 35, 36, 37, 38, 39, 40, 41, 42, 43, 44] (by decide +kernel) (by decide +kernel)
set_option maxRecDepth 20000 in
theorem gX6_coset_X6_isThere : GoodIn wsX6_coset (wsV RX6 99 RX6 yX6_isThere wsX6_isThere) := goodIn_app (goodIn_of _ (by decide +kernel)) ggX6_coset_X6_isThere
set_option maxRecDepth 20000 in
theorem ggX6_coset_X6_isSyndrome : GoodIn wsX6_coset wsX6_isSyndrome := goodIn_r _ [10, 6, 11, 12, 4, 13, 24, 25, 26, 27, 28, 29, 30, 31, 32, 33, 34, 35, 36, 37, 38, 39, 40, 41, 42, 43, 44] (by decide +kernel) (by decide +kernel)
set_option maxRecDepth 20000 in
theorem gX6_coset_X6_isSyndrome : GoodIn wsX6_coset (wsV RX6 109 RX6 yX6_isSyndrome wsX6_isSyndrome) := goodIn_app (goodIn_of _ (by decide +kernel)) ggX6_coset_X6_isSyndrome
set_option maxRecDepth 20000 in
theorem ggX6_coset_X6_cosetNow : GoodIn wsX6_coset wsX6_cosetNow := goodIn_r _ [17, 18, 19, 20, 21, 4, 22, 23, 24, 25, 26, 27, 28, 29, 30, 31, 32, 33, 34, 35, 36, 37, 38, 39, 40, 41, 42, 43, 44] (by decide +kernel) (by decide +kernel)
set_option maxRecDepth 20000 in
theorem gX6_coset_X6_cosetNow : GoodIn wsX6_coset (wsV RX6 112 RX6 yX6_cosetNow wsX6_cosetNow) := goodIn_app (goodIn_of _ (by decide +kernel)) ggX6_coset_X6_cosetNow
theorem dX6_coset_0 : decode cX6_coset 0 = .ok (.aload_n 0, 1) := by decide +kernel
theorem dX6_coset_1 : decode cX6_coset 1 = .ok (.invokevirtual 99, 3) := by decide +kernel
theorem dX6_coset_4 : decode cX6_coset 4 = .ok (.ifCond .ne 7, 3) := by decide +kernel
theorem dX6_coset_7 : decode cX6_coset 7 = .ok (.sipush (-1003), 3) := by decide +kernel
theorem dX6_coset_10 : decode cX6_coset 10 = .ok (.ireturn, 1) := by decide +kernel
theorem dX6_coset_11 : decode cX6_coset 11 = .ok (.aload_n 0, 1) := by decide +kernel
theorem dX6_coset_12 : decode cX6_coset 12 = .ok (.iload_n 1, 1) := by decide +kernel
theorem dX6_coset_13 : decode cX6_coset 13 = .ok (.invokevirtual 109, 3) := by decide +kernel
theorem dX6_coset_16 : decode cX6_coset 16 = .ok (.ifCond .eq 12, 3) := by decide +kernel
theorem dX6_coset_19 : decode cX6_coset 19 = .ok (.aload_n 0, 1) := by decide +kernel
theorem dX6_coset_20 : decode cX6_coset 20 = .ok (.iload_n 1, 1) := by decide +kernel
theorem dX6_coset_21 : decode cX6_coset 21 = .ok (.iload_n 2, 1) := by decide +kernel
theorem dX6_coset_22 : decode cX6_coset 22 = .ok (.invokevirtual 112, 3) := by decide +kernel
theorem dX6_coset_25 : decode cX6_coset 25 = .ok (.goto 6, 3) := by decide +kernel
theorem dX6_coset_28 : decode cX6_coset 28 = .ok (.sipush (-1002), 3) := by decide +kernel
theorem dX6_coset_31 : decode cX6_coset 31 = .ok (.ireturn, 1) := by decide +kernel
set_option maxRecDepth 20000 in
theorem ggX6_leadersNow_X6_ones : GoodIn wsX6_leadersNow wsX6_ones := goodIn_r _ [5] (by decide +kernel) (by decide +kernel)
set_option maxRecDepth 20000 in
theorem gX6_leadersNow_X6_ones : GoodIn wsX6_leadersNow (va_wsS RX6 68 yX6_ones wsX6_ones) := goodIn_app (goodIn_of _ (by decide +kernel)) ggX6_leadersNow_X6_ones
theorem dX6_leadersNow_0 : decode cX6_leadersNow 0 = .ok (.iconst 0, 1) := by decide +kernel
theorem dX6_leadersNow_1 : decode cX6_leadersNow 1 = .ok (.istore_n 2, 1) := by decide +kernel
theorem dX6_leadersNow_2 : decode cX6_leadersNow 2 = .ok (.iconst 0, 1) := by decide +kernel
theorem dX6_leadersNow_3 : decode cX6_leadersNow 3 = .ok (.istore_n 3, 1) := by decide +kernel
theorem dX6_leadersNow_4 : decode cX6_leadersNow 4 = .ok (.iload_n 3, 1) := by decide +kernel
theorem dX6_leadersNow_5 : decode cX6_leadersNow 5 = .ok (.bipush 32, 2) := by decide +kernel
theorem dX6_leadersNow_7 : decode cX6_leadersNow 7 = .ok (.if_icmp .ge 42, 3) := by decide +kernel
theorem dX6_leadersNow_10 : decode cX6_leadersNow 10 = .ok (.iload_n 2, 1) := by decide +kernel
theorem dX6_leadersNow_11 : decode cX6_leadersNow 11 = .ok (.aload_n 0, 1) := by decide +kernel
theorem dX6_leadersNow_12 : decode cX6_leadersNow 12 = .ok (.getfield 29, 3) := by decide +kernel
theorem dX6_leadersNow_15 : decode cX6_leadersNow 15 = .ok (.iload_n 3, 1) := by decide +kernel
theorem dX6_leadersNow_16 : decode cX6_leadersNow 16 = .ok (.iaload, 1) := by decide +kernel
theorem dX6_leadersNow_17 : decode cX6_leadersNow 17 = .ok (.sipush (-1001), 3) := by decide +kernel
theorem dX6_leadersNow_20 : decode cX6_leadersNow 20 = .ok (.if_icmp .eq 20, 3) := by decide +kernel
theorem dX6_leadersNow_23 : decode cX6_leadersNow 23 = .ok (.aload_n 0, 1) := by decide +kernel
theorem dX6_leadersNow_24 : decode cX6_leadersNow 24 = .ok (.getfield 29, 3) := by decide +kernel
theorem dX6_leadersNow_27 : decode cX6_leadersNow 27 = .ok (.iload_n 3, 1) := by decide +kernel
theorem dX6_leadersNow_28 : decode cX6_leadersNow 28 = .ok (.iaload, 1) := by decide +kernel
theorem dX6_leadersNow_29 : decode cX6_leadersNow 29 = .ok (.invokestatic 68, 3) := by decide +kernel
theorem dX6_leadersNow_32 : decode cX6_leadersNow 32 = .ok (.iload_n 1, 1) := by decide +kernel
theorem dX6_leadersNow_33 : decode cX6_leadersNow 33 = .ok (.if_icmp .ne 7, 3) := by decide +kernel
theorem dX6_leadersNow_36 : decode cX6_leadersNow 36 = .ok (.iconst 1, 1) := by decide +kernel
theorem dX6_leadersNow_37 : decode cX6_leadersNow 37 = .ok (.goto 4, 3) := by decide +kernel
theorem dX6_leadersNow_40 : decode cX6_leadersNow 40 = .ok (.iconst 0, 1) := by decide +kernel
theorem dX6_leadersNow_41 : decode cX6_leadersNow 41 = .ok (.iadd, 1) := by decide +kernel
theorem dX6_leadersNow_42 : decode cX6_leadersNow 42 = .ok (.istore_n 2, 1) := by decide +kernel
theorem dX6_leadersNow_43 : decode cX6_leadersNow 43 = .ok (.iinc 3 1, 3) := by decide +kernel
theorem dX6_leadersNow_46 : decode cX6_leadersNow 46 = .ok (.goto (-42), 3) := by decide +kernel
theorem dX6_leadersNow_49 : decode cX6_leadersNow 49 = .ok (.iload_n 2, 1) := by decide +kernel
theorem dX6_leadersNow_50 : decode cX6_leadersNow 50 = .ok (.ireturn, 1) := by decide +kernel
set_option maxRecDepth 20000 in
theorem ggX6_leaders_X6_isThere : GoodIn wsX6_leaders wsX6_isThere := goodIn_r _ [6, 7, 19, 20, 21, 22, 23, 24, 25, 26, 27, 28, 29, 30, 31, 32, 33, 34, 35, 36, 37, 38, 39] (by decide +kernel) (by decide +kernel)
set_option maxRecDepth 20000 in
theorem gX6_leaders_X6_isThere : GoodIn wsX6_leaders (wsV RX6 99 RX6 yX6_isThere wsX6_isThere) := goodIn_app (goodIn_of _ (by decide +kernel)) ggX6_leaders_X6_isThere
set_option maxRecDepth 20000 in
theorem ggX6_leaders_X6_within : GoodIn wsX6_leaders wsX6_within := goodIn_r _ [10] (by decide +kernel) (by decide +kernel)
set_option maxRecDepth 20000 in
theorem gX6_leaders_X6_within : GoodIn wsX6_leaders (va_wsS RX6 32 yX6_within wsX6_within) := goodIn_app (goodIn_of _ (by decide +kernel)) ggX6_leaders_X6_within
set_option maxRecDepth 20000 in
theorem ggX6_leaders_X6_leadersNow : GoodIn wsX6_leaders wsX6_leadersNow := goodIn_r _ [14, 15, 16, 17, 5, 18, 19, 20, 21, 22, 23, 24, 25, 26, 27, 28, 29, 30, 31, 32, 33, 34, 35, 36, 37, 38, 39] (by decide +kernel) (by decide +kernel)
set_option maxRecDepth 20000 in
theorem gX6_leaders_X6_leadersNow : GoodIn wsX6_leaders (wsV RX6 116 RX6 yX6_leadersNow wsX6_leadersNow) := goodIn_app (goodIn_of _ (by decide +kernel)) ggX6_leaders_X6_leadersNow
theorem dX6_leaders_0 : decode cX6_leaders 0 = .ok (.aload_n 0, 1) := by decide +kernel
theorem dX6_leaders_1 : decode cX6_leaders 1 = .ok (.invokevirtual 99, 3) := by decide +kernel
theorem dX6_leaders_4 : decode cX6_leaders 4 = .ok (.ifCond .ne 7, 3) := by decide +kernel
theorem dX6_leaders_7 : decode cX6_leaders 7 = .ok (.sipush (-1003), 3) := by decide +kernel
theorem dX6_leaders_10 : decode cX6_leaders 10 = .ok (.ireturn, 1) := by decide +kernel
theorem dX6_leaders_11 : decode cX6_leaders 11 = .ok (.iload_n 1, 1) := by decide +kernel
theorem dX6_leaders_12 : decode cX6_leaders 12 = .ok (.iconst 0, 1) := by decide +kernel
theorem dX6_leaders_13 : decode cX6_leaders 13 = .ok (.aload_n 0, 1) := by decide +kernel
theorem dX6_leaders_14 : decode cX6_leaders 14 = .ok (.getfield 59, 3) := by decide +kernel
theorem dX6_leaders_17 : decode cX6_leaders 17 = .ok (.invokestatic 32, 3) := by decide +kernel
theorem dX6_leaders_20 : decode cX6_leaders 20 = .ok (.ifCond .eq 11, 3) := by decide +kernel
theorem dX6_leaders_23 : decode cX6_leaders 23 = .ok (.aload_n 0, 1) := by decide +kernel
theorem dX6_leaders_24 : decode cX6_leaders 24 = .ok (.iload_n 1, 1) := by decide +kernel
theorem dX6_leaders_25 : decode cX6_leaders 25 = .ok (.invokevirtual 116, 3) := by decide +kernel
theorem dX6_leaders_28 : decode cX6_leaders 28 = .ok (.goto 6, 3) := by decide +kernel
theorem dX6_leaders_31 : decode cX6_leaders 31 = .ok (.sipush (-1002), 3) := by decide +kernel
theorem dX6_leaders_34 : decode cX6_leaders 34 = .ok (.ireturn, 1) := by decide +kernel
theorem dX6_counted_0 : decode cX6_counted 0 = .ok (.iload_n 1, 1) := by decide +kernel
theorem dX6_counted_1 : decode cX6_counted 1 = .ok (.sipush (-1001), 3) := by decide +kernel
theorem dX6_counted_4 : decode cX6_counted 4 = .ok (.if_icmp .ne 12, 3) := by decide +kernel
theorem dX6_counted_7 : decode cX6_counted 7 = .ok (.aload_n 0, 1) := by decide +kernel
theorem dX6_counted_8 : decode cX6_counted 8 = .ok (.getfield 59, 3) := by decide +kernel
theorem dX6_counted_11 : decode cX6_counted 11 = .ok (.iconst 1, 1) := by decide +kernel
theorem dX6_counted_12 : decode cX6_counted 12 = .ok (.iadd, 1) := by decide +kernel
theorem dX6_counted_13 : decode cX6_counted 13 = .ok (.goto 4, 3) := by decide +kernel
theorem dX6_counted_16 : decode cX6_counted 16 = .ok (.iload_n 1, 1) := by decide +kernel
theorem dX6_counted_17 : decode cX6_counted 17 = .ok (.ireturn, 1) := by decide +kernel
set_option maxRecDepth 20000 in
theorem ggX6_betterNow_X6_distanceNow : GoodIn wsX6_betterNow wsX6_distanceNow := goodIn_r _ [7, 8, 9, 10, 6, 11, 12, 13, 14, 15, 16, 17, 1, 18, 19, 20, 25, 26, 27, 28, 29, 30, 31, 32, 33, 34, 35, 36, 37, 38, 39, 40, 41, 42, 43, 44, 45] (by decide +kernel) (by decide +kernel)
set_option maxRecDepth 20000 in
theorem gX6_betterNow_X6_distanceNow : GoodIn wsX6_betterNow (wsV RX6 81 RX6 yX6_distanceNow wsX6_distanceNow) := goodIn_app (goodIn_of _ (by decide +kernel)) ggX6_betterNow_X6_distanceNow
set_option maxRecDepth 20000 in
theorem ggX6_betterNow_X6_counted : GoodIn wsX6_betterNow wsX6_counted := goodIn_r _ [24, 12, 25, 26, 27, 28, 29, 30, 31, 32, 33, 34, 35, 36, 37, 38, 39, 40, 41, 42, 43, 44, 45] (by decide +kernel) (by decide +kernel)
set_option maxRecDepth 20000 in
theorem gX6_betterNow_X6_counted : GoodIn wsX6_betterNow (wsV RX6 119 RX6 yX6_counted wsX6_counted) := goodIn_app (goodIn_of _ (by decide +kernel)) ggX6_betterNow_X6_counted
theorem dX6_betterNow_0 : decode cX6_betterNow 0 = .ok (.aload_n 0, 1) := by decide +kernel
theorem dX6_betterNow_1 : decode cX6_betterNow 1 = .ok (.getfield 13, 3) := by decide +kernel
theorem dX6_betterNow_4 : decode cX6_betterNow 4 = .ok (.iload_n 1, 1) := by decide +kernel
theorem dX6_betterNow_5 : decode cX6_betterNow 5 = .ok (.iaload, 1) := by decide +kernel
theorem dX6_betterNow_6 : decode cX6_betterNow 6 = .ok (.istore_n 3, 1) := by decide +kernel
theorem dX6_betterNow_7 : decode cX6_betterNow 7 = .ok (.aload_n 0, 1) := by decide +kernel
theorem dX6_betterNow_8 : decode cX6_betterNow 8 = .ok (.getfield 13, 3) := by decide +kernel
theorem dX6_betterNow_11 : decode cX6_betterNow 11 = .ok (.iload_n 1, 1) := by decide +kernel
theorem dX6_betterNow_12 : decode cX6_betterNow 12 = .ok (.iload_n 2, 1) := by decide +kernel
theorem dX6_betterNow_13 : decode cX6_betterNow 13 = .ok (.iastore, 1) := by decide +kernel
theorem dX6_betterNow_14 : decode cX6_betterNow 14 = .ok (.aload_n 0, 1) := by decide +kernel
theorem dX6_betterNow_15 : decode cX6_betterNow 15 = .ok (.invokevirtual 81, 3) := by decide +kernel
theorem dX6_betterNow_18 : decode cX6_betterNow 18 = .ok (.istore 4, 2) := by decide +kernel
theorem dX6_betterNow_20 : decode cX6_betterNow 20 = .ok (.aload_n 0, 1) := by decide +kernel
theorem dX6_betterNow_21 : decode cX6_betterNow 21 = .ok (.getfield 13, 3) := by decide +kernel
theorem dX6_betterNow_24 : decode cX6_betterNow 24 = .ok (.iload_n 1, 1) := by decide +kernel
theorem dX6_betterNow_25 : decode cX6_betterNow 25 = .ok (.iload_n 3, 1) := by decide +kernel
theorem dX6_betterNow_26 : decode cX6_betterNow 26 = .ok (.iastore, 1) := by decide +kernel
theorem dX6_betterNow_27 : decode cX6_betterNow 27 = .ok (.aload_n 0, 1) := by decide +kernel
theorem dX6_betterNow_28 : decode cX6_betterNow 28 = .ok (.iload 4, 2) := by decide +kernel
theorem dX6_betterNow_30 : decode cX6_betterNow 30 = .ok (.invokevirtual 119, 3) := by decide +kernel
theorem dX6_betterNow_33 : decode cX6_betterNow 33 = .ok (.aload_n 0, 1) := by decide +kernel
theorem dX6_betterNow_34 : decode cX6_betterNow 34 = .ok (.aload_n 0, 1) := by decide +kernel
theorem dX6_betterNow_35 : decode cX6_betterNow 35 = .ok (.getfield 84, 3) := by decide +kernel
theorem dX6_betterNow_38 : decode cX6_betterNow 38 = .ok (.invokevirtual 119, 3) := by decide +kernel
theorem dX6_betterNow_41 : decode cX6_betterNow 41 = .ok (.isub, 1) := by decide +kernel
theorem dX6_betterNow_42 : decode cX6_betterNow 42 = .ok (.ireturn, 1) := by decide +kernel
set_option maxRecDepth 20000 in
theorem ggX6_better_X6_isThere : GoodIn wsX6_better wsX6_isThere := goodIn_r _ [6, 1, 40, 41, 42, 43, 44, 45, 46, 47, 48, 49, 50, 51, 52, 53, 54, 55, 56, 57, 58, 59, 60] (by decide +kernel) (by decide +kernel)
set_option maxRecDepth 20000 in
theorem gX6_better_X6_isThere : GoodIn wsX6_better (wsV RX6 99 RX6 yX6_isThere wsX6_isThere) := goodIn_app (goodIn_of _ (by decide +kernel)) ggX6_better_X6_isThere
set_option maxRecDepth 20000 in
theorem ggX6_better_X6_within : GoodIn wsX6_better wsX6_within := goodIn_r _ [9] (by decide +kernel) (by decide +kernel)
set_option maxRecDepth 20000 in
theorem gX6_better_X6_within : GoodIn wsX6_better (va_wsS RX6 32 yX6_within wsX6_within) := goodIn_app (goodIn_of _ (by decide +kernel)) ggX6_better_X6_within
set_option maxRecDepth 20000 in
theorem ggX6_better_X6_isWord : GoodIn wsX6_better wsX6_isWord := goodIn_r _ [13, 14, 15, 16, 5, 17, 18, 7, 8, 9, 40, 41, 42, 43, 44, 45, 46, 47, 48, 49, 50, 51, 52, 53, 54, 55, 56, 57, 58, 59, 60] (by decide +kernel) (by decide +kernel)
set_option maxRecDepth 20000 in
theorem gX6_better_X6_isWord : GoodIn wsX6_better (wsV RX6 106 RX6 yX6_isWord wsX6_isWord) := goodIn_app (goodIn_of _ (by decide +kernel)) ggX6_better_X6_isWord
set_option maxRecDepth 20000 in
theorem ggX6_better_X6_betterNow : GoodIn wsX6_better wsX6_betterNow := goodIn_r _ [22, 23, 24, 25, 26, 27, 5, 28, 14, 15, 16, 17, 18, 29, 30, 31, 32, 1, 33, 34, 35, 36, 37, 38, 39, 40, 41, 42, 43, 44, 45, 46, 47, 48, 49, 50, 51, 52, 53, 54, 55, 56, 57, 58, 59, 60] (by decide +kernel) (by decide +kernel)
set_option maxRecDepth 20000 in
theorem gX6_better_X6_betterNow : GoodIn wsX6_better (wsV RX6 122 RX6 yX6_betterNow wsX6_betterNow) := goodIn_app (goodIn_of _ (by decide +kernel)) ggX6_better_X6_betterNow
theorem dX6_better_0 : decode cX6_better 0 = .ok (.aload_n 0, 1) := by decide +kernel
theorem dX6_better_1 : decode cX6_better 1 = .ok (.invokevirtual 99, 3) := by decide +kernel
theorem dX6_better_4 : decode cX6_better 4 = .ok (.ifCond .ne 7, 3) := by decide +kernel
theorem dX6_better_7 : decode cX6_better 7 = .ok (.sipush (-1003), 3) := by decide +kernel
theorem dX6_better_10 : decode cX6_better 10 = .ok (.ireturn, 1) := by decide +kernel
theorem dX6_better_11 : decode cX6_better 11 = .ok (.iload_n 1, 1) := by decide +kernel
theorem dX6_better_12 : decode cX6_better 12 = .ok (.iconst 0, 1) := by decide +kernel
theorem dX6_better_13 : decode cX6_better 13 = .ok (.aload_n 0, 1) := by decide +kernel
theorem dX6_better_14 : decode cX6_better 14 = .ok (.getfield 56, 3) := by decide +kernel
theorem dX6_better_17 : decode cX6_better 17 = .ok (.iconst 1, 1) := by decide +kernel
theorem dX6_better_18 : decode cX6_better 18 = .ok (.isub, 1) := by decide +kernel
theorem dX6_better_19 : decode cX6_better 19 = .ok (.invokestatic 32, 3) := by decide +kernel
theorem dX6_better_22 : decode cX6_better 22 = .ok (.ifCond .eq 20, 3) := by decide +kernel
theorem dX6_better_25 : decode cX6_better 25 = .ok (.aload_n 0, 1) := by decide +kernel
theorem dX6_better_26 : decode cX6_better 26 = .ok (.iload_n 2, 1) := by decide +kernel
theorem dX6_better_27 : decode cX6_better 27 = .ok (.invokevirtual 106, 3) := by decide +kernel
theorem dX6_better_30 : decode cX6_better 30 = .ok (.ifCond .eq 12, 3) := by decide +kernel
theorem dX6_better_33 : decode cX6_better 33 = .ok (.aload_n 0, 1) := by decide +kernel
theorem dX6_better_34 : decode cX6_better 34 = .ok (.iload_n 1, 1) := by decide +kernel
theorem dX6_better_35 : decode cX6_better 35 = .ok (.iload_n 2, 1) := by decide +kernel
theorem dX6_better_36 : decode cX6_better 36 = .ok (.invokevirtual 122, 3) := by decide +kernel
theorem dX6_better_39 : decode cX6_better 39 = .ok (.goto 6, 3) := by decide +kernel
theorem dX6_better_42 : decode cX6_better 42 = .ok (.sipush (-1002), 3) := by decide +kernel
theorem dX6_better_45 : decode cX6_better 45 = .ok (.ireturn, 1) := by decide +kernel
theorem dX6_flipsOf_0 : decode cX6_flipsOf 0 = .ok (.aload_n 0, 1) := by decide +kernel
theorem dX6_flipsOf_1 : decode cX6_flipsOf 1 = .ok (.getfield 29, 3) := by decide +kernel
theorem dX6_flipsOf_4 : decode cX6_flipsOf 4 = .ok (.aload_n 0, 1) := by decide +kernel
theorem dX6_flipsOf_5 : decode cX6_flipsOf 5 = .ok (.getfield 26, 3) := by decide +kernel
theorem dX6_flipsOf_8 : decode cX6_flipsOf 8 = .ok (.iload_n 1, 1) := by decide +kernel
theorem dX6_flipsOf_9 : decode cX6_flipsOf 9 = .ok (.iload_n 2, 1) := by decide +kernel
theorem dX6_flipsOf_10 : decode cX6_flipsOf 10 = .ok (.ixor, 1) := by decide +kernel
theorem dX6_flipsOf_11 : decode cX6_flipsOf 11 = .ok (.iaload, 1) := by decide +kernel
theorem dX6_flipsOf_12 : decode cX6_flipsOf 12 = .ok (.iaload, 1) := by decide +kernel
theorem dX6_flipsOf_13 : decode cX6_flipsOf 13 = .ok (.ireturn, 1) := by decide +kernel
set_option maxRecDepth 20000 in
theorem ggX6_verdictOf_X6_flipsOf : GoodIn wsX6_verdictOf wsX6_flipsOf := goodIn_r _ [6, 7, 8, 12, 13, 14, 15, 16, 17, 18, 19, 20, 21, 22, 23, 24, 25, 26, 27, 28, 29, 30, 31, 32] (by decide +kernel) (by decide +kernel)
set_option maxRecDepth 20000 in
theorem gX6_verdictOf_X6_flipsOf : GoodIn wsX6_verdictOf (wsV RX6 125 RX6 yX6_flipsOf wsX6_flipsOf) := goodIn_app (goodIn_of _ (by decide +kernel)) ggX6_verdictOf_X6_flipsOf
set_option maxRecDepth 20000 in
theorem ggX6_verdictOf_X6_ones : GoodIn wsX6_verdictOf wsX6_ones := goodIn_r _ [11] (by decide +kernel) (by decide +kernel)
set_option maxRecDepth 20000 in
theorem gX6_verdictOf_X6_ones : GoodIn wsX6_verdictOf (va_wsS RX6 68 yX6_ones wsX6_ones) := goodIn_app (goodIn_of _ (by decide +kernel)) ggX6_verdictOf_X6_ones
theorem dX6_verdictOf_0 : decode cX6_verdictOf 0 = .ok (.aload_n 0, 1) := by decide +kernel
theorem dX6_verdictOf_1 : decode cX6_verdictOf 1 = .ok (.iload_n 1, 1) := by decide +kernel
theorem dX6_verdictOf_2 : decode cX6_verdictOf 2 = .ok (.iload_n 2, 1) := by decide +kernel
theorem dX6_verdictOf_3 : decode cX6_verdictOf 3 = .ok (.invokevirtual 125, 3) := by decide +kernel
theorem dX6_verdictOf_6 : decode cX6_verdictOf 6 = .ok (.istore_n 3, 1) := by decide +kernel
theorem dX6_verdictOf_7 : decode cX6_verdictOf 7 = .ok (.iload_n 1, 1) := by decide +kernel
theorem dX6_verdictOf_8 : decode cX6_verdictOf 8 = .ok (.iload_n 3, 1) := by decide +kernel
theorem dX6_verdictOf_9 : decode cX6_verdictOf 9 = .ok (.ixor, 1) := by decide +kernel
theorem dX6_verdictOf_10 : decode cX6_verdictOf 10 = .ok (.iload_n 2, 1) := by decide +kernel
theorem dX6_verdictOf_11 : decode cX6_verdictOf 11 = .ok (.if_icmp .ne 7, 3) := by decide +kernel
theorem dX6_verdictOf_14 : decode cX6_verdictOf 14 = .ok (.iconst 1, 1) := by decide +kernel
theorem dX6_verdictOf_15 : decode cX6_verdictOf 15 = .ok (.goto 4, 3) := by decide +kernel
theorem dX6_verdictOf_18 : decode cX6_verdictOf 18 = .ok (.iconst 0, 1) := by decide +kernel
theorem dX6_verdictOf_19 : decode cX6_verdictOf 19 = .ok (.istore 4, 2) := by decide +kernel
theorem dX6_verdictOf_21 : decode cX6_verdictOf 21 = .ok (.iload_n 3, 1) := by decide +kernel
theorem dX6_verdictOf_22 : decode cX6_verdictOf 22 = .ok (.invokestatic 68, 3) := by decide +kernel
theorem dX6_verdictOf_25 : decode cX6_verdictOf 25 = .ok (.aload_n 0, 1) := by decide +kernel
theorem dX6_verdictOf_26 : decode cX6_verdictOf 26 = .ok (.getfield 90, 3) := by decide +kernel
theorem dX6_verdictOf_29 : decode cX6_verdictOf 29 = .ok (.if_icmp .gt 7, 3) := by decide +kernel
theorem dX6_verdictOf_32 : decode cX6_verdictOf 32 = .ok (.iconst 1, 1) := by decide +kernel
theorem dX6_verdictOf_33 : decode cX6_verdictOf 33 = .ok (.goto 4, 3) := by decide +kernel
theorem dX6_verdictOf_36 : decode cX6_verdictOf 36 = .ok (.iconst 0, 1) := by decide +kernel
theorem dX6_verdictOf_37 : decode cX6_verdictOf 37 = .ok (.istore 5, 2) := by decide +kernel
theorem dX6_verdictOf_39 : decode cX6_verdictOf 39 = .ok (.iload 4, 2) := by decide +kernel
theorem dX6_verdictOf_41 : decode cX6_verdictOf 41 = .ok (.ifCond .eq 16, 3) := by decide +kernel
theorem dX6_verdictOf_44 : decode cX6_verdictOf 44 = .ok (.iload 5, 2) := by decide +kernel
theorem dX6_verdictOf_46 : decode cX6_verdictOf 46 = .ok (.ifCond .eq 7, 3) := by decide +kernel
theorem dX6_verdictOf_49 : decode cX6_verdictOf 49 = .ok (.iconst 0, 1) := by decide +kernel
theorem dX6_verdictOf_50 : decode cX6_verdictOf 50 = .ok (.goto 17, 3) := by decide +kernel
theorem dX6_verdictOf_53 : decode cX6_verdictOf 53 = .ok (.iconst 1, 1) := by decide +kernel
theorem dX6_verdictOf_54 : decode cX6_verdictOf 54 = .ok (.goto 13, 3) := by decide +kernel
theorem dX6_verdictOf_57 : decode cX6_verdictOf 57 = .ok (.iload 5, 2) := by decide +kernel
theorem dX6_verdictOf_59 : decode cX6_verdictOf 59 = .ok (.ifCond .eq 7, 3) := by decide +kernel
theorem dX6_verdictOf_62 : decode cX6_verdictOf 62 = .ok (.iconst 3, 1) := by decide +kernel
theorem dX6_verdictOf_63 : decode cX6_verdictOf 63 = .ok (.goto 4, 3) := by decide +kernel
theorem dX6_verdictOf_66 : decode cX6_verdictOf 66 = .ok (.iconst 2, 1) := by decide +kernel
theorem dX6_verdictOf_67 : decode cX6_verdictOf 67 = .ok (.ireturn, 1) := by decide +kernel
set_option maxRecDepth 20000 in
theorem ggX6_sendNow_X6_verdictOf : GoodIn wsX6_sendNow wsX6_verdictOf := goodIn_r _ [10, 11, 12, 13, 14, 9, 15, 16, 17, 18, 19, 20, 21, 22, 23, 24, 25, 26, 27, 28, 29, 30, 31, 32, 33, 34, 35, 36, 37, 38, 39, 40, 41] (by decide +kernel) (by decide +kernel)
set_option maxRecDepth 20000 in
theorem gX6_sendNow_X6_verdictOf : GoodIn wsX6_sendNow (wsV RX6 128 RX6 yX6_verdictOf wsX6_verdictOf) := goodIn_app (goodIn_of _ (by decide +kernel)) ggX6_sendNow_X6_verdictOf
theorem dX6_sendNow_0 : decode cX6_sendNow 0 = .ok (.aload_n 0, 1) := by decide +kernel
theorem dX6_sendNow_1 : decode cX6_sendNow 1 = .ok (.iload_n 1, 1) := by decide +kernel
theorem dX6_sendNow_2 : decode cX6_sendNow 2 = .ok (.iload_n 2, 1) := by decide +kernel
theorem dX6_sendNow_3 : decode cX6_sendNow 3 = .ok (.invokevirtual 128, 3) := by decide +kernel
theorem dX6_sendNow_6 : decode cX6_sendNow 6 = .ok (.istore_n 3, 1) := by decide +kernel
theorem dX6_sendNow_7 : decode cX6_sendNow 7 = .ok (.aload_n 0, 1) := by decide +kernel
theorem dX6_sendNow_8 : decode cX6_sendNow 8 = .ok (.getfield 20, 3) := by decide +kernel
theorem dX6_sendNow_11 : decode cX6_sendNow 11 = .ok (.iload_n 3, 1) := by decide +kernel
theorem dX6_sendNow_12 : decode cX6_sendNow 12 = .ok (.dup2, 1) := by decide +kernel
theorem dX6_sendNow_13 : decode cX6_sendNow 13 = .ok (.iaload, 1) := by decide +kernel
theorem dX6_sendNow_14 : decode cX6_sendNow 14 = .ok (.iconst 1, 1) := by decide +kernel
theorem dX6_sendNow_15 : decode cX6_sendNow 15 = .ok (.iadd, 1) := by decide +kernel
theorem dX6_sendNow_16 : decode cX6_sendNow 16 = .ok (.iastore, 1) := by decide +kernel
theorem dX6_sendNow_17 : decode cX6_sendNow 17 = .ok (.aload_n 0, 1) := by decide +kernel
theorem dX6_sendNow_18 : decode cX6_sendNow 18 = .ok (.dup, 1) := by decide +kernel
theorem dX6_sendNow_19 : decode cX6_sendNow 19 = .ok (.getfield 131, 3) := by decide +kernel
theorem dX6_sendNow_22 : decode cX6_sendNow 22 = .ok (.aload_n 0, 1) := by decide +kernel
theorem dX6_sendNow_23 : decode cX6_sendNow 23 = .ok (.getfield 59, 3) := by decide +kernel
theorem dX6_sendNow_26 : decode cX6_sendNow 26 = .ok (.aload_n 0, 1) := by decide +kernel
theorem dX6_sendNow_27 : decode cX6_sendNow 27 = .ok (.getfield 78, 3) := by decide +kernel
theorem dX6_sendNow_30 : decode cX6_sendNow 30 = .ok (.iadd, 1) := by decide +kernel
theorem dX6_sendNow_31 : decode cX6_sendNow 31 = .ok (.iadd, 1) := by decide +kernel
theorem dX6_sendNow_32 : decode cX6_sendNow 32 = .ok (.putfield 131, 3) := by decide +kernel
theorem dX6_sendNow_35 : decode cX6_sendNow 35 = .ok (.aload_n 0, 1) := by decide +kernel
theorem dX6_sendNow_36 : decode cX6_sendNow 36 = .ok (.dup, 1) := by decide +kernel
theorem dX6_sendNow_37 : decode cX6_sendNow 37 = .ok (.getfield 134, 3) := by decide +kernel
theorem dX6_sendNow_40 : decode cX6_sendNow 40 = .ok (.iconst 2, 1) := by decide +kernel
theorem dX6_sendNow_41 : decode cX6_sendNow 41 = .ok (.aload_n 0, 1) := by decide +kernel
theorem dX6_sendNow_42 : decode cX6_sendNow 42 = .ok (.getfield 59, 3) := by decide +kernel
theorem dX6_sendNow_45 : decode cX6_sendNow 45 = .ok (.imul, 1) := by decide +kernel
theorem dX6_sendNow_46 : decode cX6_sendNow 46 = .ok (.iadd, 1) := by decide +kernel
theorem dX6_sendNow_47 : decode cX6_sendNow 47 = .ok (.putfield 134, 3) := by decide +kernel
theorem dX6_sendNow_50 : decode cX6_sendNow 50 = .ok (.iload_n 3, 1) := by decide +kernel
theorem dX6_sendNow_51 : decode cX6_sendNow 51 = .ok (.ireturn, 1) := by decide +kernel
set_option maxRecDepth 20000 in
theorem ggX6_send_X6_isThere : GoodIn wsX6_send wsX6_isThere := goodIn_r _ [5, 6, 41, 42, 43, 44, 45, 46, 47, 48, 49, 50, 51, 52, 53, 54, 55, 56, 57, 58, 59, 60, 61] (by decide +kernel) (by decide +kernel)
set_option maxRecDepth 20000 in
theorem gX6_send_X6_isThere : GoodIn wsX6_send (wsV RX6 99 RX6 yX6_isThere wsX6_isThere) := goodIn_app (goodIn_of _ (by decide +kernel)) ggX6_send_X6_isThere
set_option maxRecDepth 20000 in
theorem ggX6_send_X6_isWord : GoodIn wsX6_send wsX6_isWord := goodIn_r _ [10, 11, 12, 13, 4, 14, 15, 16, 17, 18, 41, 42, 43, 44, 45, 46, 47, 48, 49, 50, 51, 52, 53, 54, 55, 56, 57, 58, 59, 60, 61] (by decide +kernel) (by decide +kernel)
set_option maxRecDepth 20000 in
theorem gX6_send_X6_isWord : GoodIn wsX6_send (wsV RX6 106 RX6 yX6_isWord wsX6_isWord) := goodIn_app (goodIn_of _ (by decide +kernel)) ggX6_send_X6_isWord
set_option maxRecDepth 20000 in
theorem ggX6_send_X6_sendNow : GoodIn wsX6_send wsX6_sendNow := goodIn_r _ [22, 23, 24, 15, 25, 26, 27, 28, 29, 4, 30, 31, 32, 33, 34, 35, 36, 37, 38, 39, 40, 41, 42, 43, 44, 45, 46, 47, 48, 49, 50, 51, 52, 53, 54, 55, 56, 57, 58, 59, 60, 61] (by decide +kernel) (by decide +kernel)
set_option maxRecDepth 20000 in
theorem gX6_send_X6_sendNow : GoodIn wsX6_send (wsV RX6 137 RX6 yX6_sendNow wsX6_sendNow) := goodIn_app (goodIn_of _ (by decide +kernel)) ggX6_send_X6_sendNow
theorem dX6_send_0 : decode cX6_send 0 = .ok (.aload_n 0, 1) := by decide +kernel
theorem dX6_send_1 : decode cX6_send 1 = .ok (.invokevirtual 99, 3) := by decide +kernel
theorem dX6_send_4 : decode cX6_send 4 = .ok (.ifCond .ne 7, 3) := by decide +kernel
theorem dX6_send_7 : decode cX6_send 7 = .ok (.sipush (-1003), 3) := by decide +kernel
theorem dX6_send_10 : decode cX6_send 10 = .ok (.ireturn, 1) := by decide +kernel
theorem dX6_send_11 : decode cX6_send 11 = .ok (.aload_n 0, 1) := by decide +kernel
theorem dX6_send_12 : decode cX6_send 12 = .ok (.iload_n 1, 1) := by decide +kernel
theorem dX6_send_13 : decode cX6_send 13 = .ok (.invokevirtual 106, 3) := by decide +kernel
theorem dX6_send_16 : decode cX6_send 16 = .ok (.ifCond .eq 20, 3) := by decide +kernel
theorem dX6_send_19 : decode cX6_send 19 = .ok (.aload_n 0, 1) := by decide +kernel
theorem dX6_send_20 : decode cX6_send 20 = .ok (.iload_n 2, 1) := by decide +kernel
theorem dX6_send_21 : decode cX6_send 21 = .ok (.invokevirtual 106, 3) := by decide +kernel
theorem dX6_send_24 : decode cX6_send 24 = .ok (.ifCond .eq 12, 3) := by decide +kernel
theorem dX6_send_27 : decode cX6_send 27 = .ok (.aload_n 0, 1) := by decide +kernel
theorem dX6_send_28 : decode cX6_send 28 = .ok (.iload_n 1, 1) := by decide +kernel
theorem dX6_send_29 : decode cX6_send 29 = .ok (.iload_n 2, 1) := by decide +kernel
theorem dX6_send_30 : decode cX6_send 30 = .ok (.invokevirtual 137, 3) := by decide +kernel
theorem dX6_send_33 : decode cX6_send 33 = .ok (.goto 6, 3) := by decide +kernel
theorem dX6_send_36 : decode cX6_send 36 = .ok (.sipush (-1002), 3) := by decide +kernel
theorem dX6_send_39 : decode cX6_send 39 = .ok (.ireturn, 1) := by decide +kernel
set_option maxRecDepth 20000 in
theorem ggX6_plain_X6_isThere : GoodIn wsX6_plain wsX6_isThere := goodIn_r _ [5, 6, 33, 34, 35, 36, 37, 38, 39, 40, 41, 42, 43, 44, 45, 46, 47, 48, 49, 50, 51, 52, 53] (by decide +kernel) (by decide +kernel)
set_option maxRecDepth 20000 in
theorem gX6_plain_X6_isThere : GoodIn wsX6_plain (wsV RX6 99 RX6 yX6_isThere wsX6_isThere) := goodIn_app (goodIn_of _ (by decide +kernel)) ggX6_plain_X6_isThere
set_option maxRecDepth 20000 in
theorem ggX6_plain_X6_isWord : GoodIn wsX6_plain wsX6_isWord := goodIn_r _ [10, 11, 12, 13, 4, 14, 15, 16, 17, 18, 33, 34, 35, 36, 37, 38, 39, 40, 41, 42, 43, 44, 45, 46, 47, 48, 49, 50, 51, 52, 53] (by decide +kernel) (by decide +kernel)
set_option maxRecDepth 20000 in
theorem gX6_plain_X6_isWord : GoodIn wsX6_plain (wsV RX6 106 RX6 yX6_isWord wsX6_isWord) := goodIn_app (goodIn_of _ (by decide +kernel)) ggX6_plain_X6_isWord
set_option maxRecDepth 20000 in
theorem ggX6_plain_X6_within : GoodIn wsX6_plain wsX6_within := goodIn_r _ [18] (by decide +kernel) (by decide +kernel)
set_option maxRecDepth 20000 in
theorem gX6_plain_X6_within : GoodIn wsX6_plain (va_wsS RX6 32 yX6_within wsX6_within) := goodIn_app (goodIn_of _ (by decide +kernel)) ggX6_plain_X6_within
set_option maxRecDepth 20000 in
theorem ggX6_plain_X6_verdictOf : GoodIn wsX6_plain wsX6_verdictOf := goodIn_r _ [22, 23, 24, 25, 26, 4, 27, 28, 29, 30, 31, 32, 33, 34, 35, 36, 37, 38, 39, 40, 41, 42, 43, 44, 45, 46, 47, 48, 49, 50, 51, 52, 53] (by decide +kernel) (by decide +kernel)
set_option maxRecDepth 20000 in
theorem gX6_plain_X6_verdictOf : GoodIn wsX6_plain (wsV RX6 128 RX6 yX6_verdictOf wsX6_verdictOf) := goodIn_app (goodIn_of _ (by decide +kernel)) ggX6_plain_X6_verdictOf
set_option maxRecDepth 20000 in
theorem ggX6_plain_X6_flipsOf : GoodIn wsX6_plain wsX6_flipsOf := goodIn_r _ [27, 28, 29, 33, 34, 35, 36, 37, 38, 39, 40, 41, 42, 43, 44, 45, 46, 47, 48, 49, 50, 51, 52, 53] (by decide +kernel) (by decide +kernel)
set_option maxRecDepth 20000 in
theorem gX6_plain_X6_flipsOf : GoodIn wsX6_plain (wsV RX6 125 RX6 yX6_flipsOf wsX6_flipsOf) := goodIn_app (goodIn_of _ (by decide +kernel)) ggX6_plain_X6_flipsOf
theorem dX6_plain_0 : decode cX6_plain 0 = .ok (.aload_n 0, 1) := by decide +kernel
theorem dX6_plain_1 : decode cX6_plain 1 = .ok (.invokevirtual 99, 3) := by decide +kernel
theorem dX6_plain_4 : decode cX6_plain 4 = .ok (.ifCond .ne 7, 3) := by decide +kernel
theorem dX6_plain_7 : decode cX6_plain 7 = .ok (.sipush (-1003), 3) := by decide +kernel
theorem dX6_plain_10 : decode cX6_plain 10 = .ok (.ireturn, 1) := by decide +kernel
theorem dX6_plain_11 : decode cX6_plain 11 = .ok (.aload_n 0, 1) := by decide +kernel
theorem dX6_plain_12 : decode cX6_plain 12 = .ok (.iload_n 1, 1) := by decide +kernel
theorem dX6_plain_13 : decode cX6_plain 13 = .ok (.invokevirtual 106, 3) := by decide +kernel
theorem dX6_plain_16 : decode cX6_plain 16 = .ok (.ifCond .eq 20, 3) := by decide +kernel
theorem dX6_plain_19 : decode cX6_plain 19 = .ok (.aload_n 0, 1) := by decide +kernel
theorem dX6_plain_20 : decode cX6_plain 20 = .ok (.iload_n 2, 1) := by decide +kernel
theorem dX6_plain_21 : decode cX6_plain 21 = .ok (.invokevirtual 106, 3) := by decide +kernel
theorem dX6_plain_24 : decode cX6_plain 24 = .ok (.ifCond .eq 12, 3) := by decide +kernel
theorem dX6_plain_27 : decode cX6_plain 27 = .ok (.iload_n 3, 1) := by decide +kernel
theorem dX6_plain_28 : decode cX6_plain 28 = .ok (.iconst 0, 1) := by decide +kernel
theorem dX6_plain_29 : decode cX6_plain 29 = .ok (.iconst 2, 1) := by decide +kernel
theorem dX6_plain_30 : decode cX6_plain 30 = .ok (.invokestatic 32, 3) := by decide +kernel
theorem dX6_plain_33 : decode cX6_plain 33 = .ok (.ifCond .ne 7, 3) := by decide +kernel
theorem dX6_plain_36 : decode cX6_plain 36 = .ok (.sipush (-1002), 3) := by decide +kernel
theorem dX6_plain_39 : decode cX6_plain 39 = .ok (.ireturn, 1) := by decide +kernel
theorem dX6_plain_40 : decode cX6_plain 40 = .ok (.iload_n 3, 1) := by decide +kernel
theorem dX6_plain_41 : decode cX6_plain 41 = .ok (.ifCond .ne 12, 3) := by decide +kernel
theorem dX6_plain_44 : decode cX6_plain 44 = .ok (.aload_n 0, 1) := by decide +kernel
theorem dX6_plain_45 : decode cX6_plain 45 = .ok (.iload_n 1, 1) := by decide +kernel
theorem dX6_plain_46 : decode cX6_plain 46 = .ok (.iload_n 2, 1) := by decide +kernel
theorem dX6_plain_47 : decode cX6_plain 47 = .ok (.invokevirtual 128, 3) := by decide +kernel
theorem dX6_plain_50 : decode cX6_plain 50 = .ok (.goto 25, 3) := by decide +kernel
theorem dX6_plain_53 : decode cX6_plain 53 = .ok (.iload_n 3, 1) := by decide +kernel
theorem dX6_plain_54 : decode cX6_plain 54 = .ok (.iconst 1, 1) := by decide +kernel
theorem dX6_plain_55 : decode cX6_plain 55 = .ok (.if_icmp .ne 12, 3) := by decide +kernel
theorem dX6_plain_58 : decode cX6_plain 58 = .ok (.aload_n 0, 1) := by decide +kernel
theorem dX6_plain_59 : decode cX6_plain 59 = .ok (.iload_n 1, 1) := by decide +kernel
theorem dX6_plain_60 : decode cX6_plain 60 = .ok (.iload_n 2, 1) := by decide +kernel
theorem dX6_plain_61 : decode cX6_plain 61 = .ok (.invokevirtual 125, 3) := by decide +kernel
theorem dX6_plain_64 : decode cX6_plain 64 = .ok (.goto 11, 3) := by decide +kernel
theorem dX6_plain_67 : decode cX6_plain 67 = .ok (.iload_n 1, 1) := by decide +kernel
theorem dX6_plain_68 : decode cX6_plain 68 = .ok (.aload_n 0, 1) := by decide +kernel
theorem dX6_plain_69 : decode cX6_plain 69 = .ok (.iload_n 1, 1) := by decide +kernel
theorem dX6_plain_70 : decode cX6_plain 70 = .ok (.iload_n 2, 1) := by decide +kernel
theorem dX6_plain_71 : decode cX6_plain 71 = .ok (.invokevirtual 125, 3) := by decide +kernel
theorem dX6_plain_74 : decode cX6_plain 74 = .ok (.ixor, 1) := by decide +kernel
theorem dX6_plain_75 : decode cX6_plain 75 = .ok (.ireturn, 1) := by decide +kernel
set_option maxRecDepth 20000 in
theorem ggX6_isEnough_X6_words : GoodIn wsX6_isEnough wsX6_words := goodIn_r _ [6, 7, 8, 9, 10, 11, 12, 13, 14, 15, 16, 17, 18, 19, 20, 21, 22, 23, 24, 25, 26, 27, 28] (by decide +kernel) (by decide +kernel)
set_option maxRecDepth 20000 in
theorem gX6_isEnough_X6_words : GoodIn wsX6_isEnough (wsV RX6 72 RX6 yX6_words wsX6_words) := goodIn_app (goodIn_of _ (by decide +kernel)) ggX6_isEnough_X6_words
theorem dX6_isEnough_0 : decode cX6_isEnough 0 = .ok (.iconst 1, 1) := by decide +kernel
theorem dX6_isEnough_1 : decode cX6_isEnough 1 = .ok (.istore_n 2, 1) := by decide +kernel
theorem dX6_isEnough_2 : decode cX6_isEnough 2 = .ok (.iconst 1, 1) := by decide +kernel
theorem dX6_isEnough_3 : decode cX6_isEnough 3 = .ok (.istore_n 3, 1) := by decide +kernel
theorem dX6_isEnough_4 : decode cX6_isEnough 4 = .ok (.iload_n 3, 1) := by decide +kernel
theorem dX6_isEnough_5 : decode cX6_isEnough 5 = .ok (.aload_n 0, 1) := by decide +kernel
theorem dX6_isEnough_6 : decode cX6_isEnough 6 = .ok (.invokevirtual 72, 3) := by decide +kernel
theorem dX6_isEnough_9 : decode cX6_isEnough 9 = .ok (.if_icmp .ge 34, 3) := by decide +kernel
theorem dX6_isEnough_12 : decode cX6_isEnough 12 = .ok (.iload_n 2, 1) := by decide +kernel
theorem dX6_isEnough_13 : decode cX6_isEnough 13 = .ok (.ifCond .eq 22, 3) := by decide +kernel
theorem dX6_isEnough_16 : decode cX6_isEnough 16 = .ok (.aload_n 0, 1) := by decide +kernel
theorem dX6_isEnough_17 : decode cX6_isEnough 17 = .ok (.getfield 26, 3) := by decide +kernel
theorem dX6_isEnough_20 : decode cX6_isEnough 20 = .ok (.iload_n 3, 1) := by decide +kernel
theorem dX6_isEnough_21 : decode cX6_isEnough 21 = .ok (.iaload, 1) := by decide +kernel
theorem dX6_isEnough_22 : decode cX6_isEnough 22 = .ok (.ifCond .ne 9, 3) := by decide +kernel
theorem dX6_isEnough_25 : decode cX6_isEnough 25 = .ok (.iload_n 3, 1) := by decide +kernel
theorem dX6_isEnough_26 : decode cX6_isEnough 26 = .ok (.iload_n 1, 1) := by decide +kernel
theorem dX6_isEnough_27 : decode cX6_isEnough 27 = .ok (.iand, 1) := by decide +kernel
theorem dX6_isEnough_28 : decode cX6_isEnough 28 = .ok (.ifCond .eq 7, 3) := by decide +kernel
theorem dX6_isEnough_31 : decode cX6_isEnough 31 = .ok (.iconst 1, 1) := by decide +kernel
theorem dX6_isEnough_32 : decode cX6_isEnough 32 = .ok (.goto 4, 3) := by decide +kernel
theorem dX6_isEnough_35 : decode cX6_isEnough 35 = .ok (.iconst 0, 1) := by decide +kernel
theorem dX6_isEnough_36 : decode cX6_isEnough 36 = .ok (.istore_n 2, 1) := by decide +kernel
theorem dX6_isEnough_37 : decode cX6_isEnough 37 = .ok (.iinc 3 1, 3) := by decide +kernel
theorem dX6_isEnough_40 : decode cX6_isEnough 40 = .ok (.goto (-36), 3) := by decide +kernel
theorem dX6_isEnough_43 : decode cX6_isEnough 43 = .ok (.iload_n 2, 1) := by decide +kernel
theorem dX6_isEnough_44 : decode cX6_isEnough 44 = .ok (.ireturn, 1) := by decide +kernel
set_option maxRecDepth 20000 in
theorem ggX6_areSets_X6_isWord : GoodIn wsX6_areSets wsX6_isWord := goodIn_r _ [5, 6, 7, 8, 4, 9, 10, 11, 12, 13, 14, 15, 16, 17, 18, 19, 20, 21, 22, 23, 24, 25, 26, 27, 28, 29, 30, 31, 32, 33, 34] (by decide +kernel) (by decide +kernel)
set_option maxRecDepth 20000 in
theorem gX6_areSets_X6_isWord : GoodIn wsX6_areSets (wsV RX6 106 RX6 yX6_isWord wsX6_isWord) := goodIn_app (goodIn_of _ (by decide +kernel)) ggX6_areSets_X6_isWord
theorem dX6_areSets_0 : decode cX6_areSets 0 = .ok (.aload_n 0, 1) := by decide +kernel
theorem dX6_areSets_1 : decode cX6_areSets 1 = .ok (.iload_n 1, 1) := by decide +kernel
theorem dX6_areSets_2 : decode cX6_areSets 2 = .ok (.invokevirtual 106, 3) := by decide +kernel
theorem dX6_areSets_5 : decode cX6_areSets 5 = .ok (.ifCond .eq 21, 3) := by decide +kernel
theorem dX6_areSets_8 : decode cX6_areSets 8 = .ok (.aload_n 0, 1) := by decide +kernel
theorem dX6_areSets_9 : decode cX6_areSets 9 = .ok (.iload_n 2, 1) := by decide +kernel
theorem dX6_areSets_10 : decode cX6_areSets 10 = .ok (.invokevirtual 106, 3) := by decide +kernel
theorem dX6_areSets_13 : decode cX6_areSets 13 = .ok (.ifCond .eq 13, 3) := by decide +kernel
theorem dX6_areSets_16 : decode cX6_areSets 16 = .ok (.iload_n 1, 1) := by decide +kernel
theorem dX6_areSets_17 : decode cX6_areSets 17 = .ok (.iload_n 2, 1) := by decide +kernel
theorem dX6_areSets_18 : decode cX6_areSets 18 = .ok (.iand, 1) := by decide +kernel
theorem dX6_areSets_19 : decode cX6_areSets 19 = .ok (.ifCond .ne 7, 3) := by decide +kernel
theorem dX6_areSets_22 : decode cX6_areSets 22 = .ok (.iconst 1, 1) := by decide +kernel
theorem dX6_areSets_23 : decode cX6_areSets 23 = .ok (.goto 4, 3) := by decide +kernel
theorem dX6_areSets_26 : decode cX6_areSets 26 = .ok (.iconst 0, 1) := by decide +kernel
theorem dX6_areSets_27 : decode cX6_areSets 27 = .ok (.ireturn, 1) := by decide +kernel
set_option maxRecDepth 20000 in
theorem ggX6_share_X6_isThere : GoodIn wsX6_share wsX6_isThere := goodIn_r _ [6, 7, 32, 33, 34, 35, 36, 37, 38, 39, 40, 41, 42, 43, 44, 45, 46, 47, 48, 49, 50, 51, 52] (by decide +kernel) (by decide +kernel)
set_option maxRecDepth 20000 in
theorem gX6_share_X6_isThere : GoodIn wsX6_share (wsV RX6 99 RX6 yX6_isThere wsX6_isThere) := goodIn_app (goodIn_of _ (by decide +kernel)) ggX6_share_X6_isThere
set_option maxRecDepth 20000 in
theorem ggX6_share_X6_areSets : GoodIn wsX6_share wsX6_areSets := goodIn_r _ [11, 12, 13, 14, 5, 15, 16, 17, 18, 19, 20, 21, 22, 23, 32, 33, 34, 35, 36, 37, 38, 39, 40, 41, 42, 43, 44, 45, 46, 47, 48, 49, 50, 51, 52] (by decide +kernel) (by decide +kernel)
set_option maxRecDepth 20000 in
theorem gX6_share_X6_areSets : GoodIn wsX6_share (wsV RX6 140 RX6 yX6_areSets wsX6_areSets) := goodIn_app (goodIn_of _ (by decide +kernel)) ggX6_share_X6_areSets
set_option maxRecDepth 20000 in
theorem ggX6_share_X6_within : GoodIn wsX6_share wsX6_within := goodIn_r _ [23] (by decide +kernel) (by decide +kernel)
set_option maxRecDepth 20000 in
theorem gX6_share_X6_within : GoodIn wsX6_share (va_wsS RX6 32 yX6_within wsX6_within) := goodIn_app (goodIn_of _ (by decide +kernel)) ggX6_share_X6_within
set_option maxRecDepth 20000 in
theorem ggX6_share_X6_ones : GoodIn wsX6_share wsX6_ones := goodIn_r _ [26] (by decide +kernel) (by decide +kernel)
set_option maxRecDepth 20000 in
theorem gX6_share_X6_ones : GoodIn wsX6_share (va_wsS RX6 68 yX6_ones wsX6_ones) := goodIn_app (goodIn_of _ (by decide +kernel)) ggX6_share_X6_ones
set_option maxRecDepth 20000 in
theorem ggX6_share_X6_isEnough : GoodIn wsX6_share wsX6_isEnough := goodIn_r _ [30, 31, 16, 17, 18, 5, 19, 20, 32, 33, 34, 35, 36, 37, 38, 39, 40, 41, 42, 43, 44, 45, 46, 47, 48, 49, 50, 51, 52] (by decide +kernel) (by decide +kernel)
set_option maxRecDepth 20000 in
theorem gX6_share_X6_isEnough : GoodIn wsX6_share (wsV RX6 144 RX6 yX6_isEnough wsX6_isEnough) := goodIn_app (goodIn_of _ (by decide +kernel)) ggX6_share_X6_isEnough
