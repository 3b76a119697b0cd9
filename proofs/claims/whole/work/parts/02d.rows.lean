theorem dX5_init_0 : decode cX5_init 0 = .ok (.aload_n 0, 1) := by decide +kernel
theorem dX5_init_1 : decode cX5_init 1 = .ok (.invokespecial 1, 3) := by decide +kernel
theorem dX5_init_4 : decode cX5_init 4 = .ok (.aload_n 0, 1) := by decide +kernel
theorem dX5_init_5 : decode cX5_init 5 = .ok (.new 7, 3) := by decide +kernel
theorem dX5_init_8 : decode cX5_init 8 = .ok (.dup, 1) := by decide +kernel
theorem dX5_init_9 : decode cX5_init 9 = .ok (.invokespecial 9, 3) := by decide +kernel
theorem dX5_init_12 : decode cX5_init 12 = .ok (.putfield 10, 3) := by decide +kernel
theorem dX5_init_15 : decode cX5_init 15 = .ok (.aload_n 0, 1) := by decide +kernel
theorem dX5_init_16 : decode cX5_init 16 = .ok (.new 16, 3) := by decide +kernel
theorem dX5_init_19 : decode cX5_init 19 = .ok (.dup, 1) := by decide +kernel
theorem dX5_init_20 : decode cX5_init 20 = .ok (.invokespecial 18, 3) := by decide +kernel
theorem dX5_init_23 : decode cX5_init 23 = .ok (.putfield 19, 3) := by decide +kernel
theorem dX5_init_26 : decode cX5_init 26 = .ok (.aload_n 0, 1) := by decide +kernel
theorem dX5_init_27 : decode cX5_init 27 = .ok (.new 23, 3) := by decide +kernel
theorem dX5_init_30 : decode cX5_init 30 = .ok (.dup, 1) := by decide +kernel
theorem dX5_init_31 : decode cX5_init 31 = .ok (.invokespecial 25, 3) := by decide +kernel
theorem dX5_init_34 : decode cX5_init 34 = .ok (.putfield 26, 3) := by decide +kernel
theorem dX5_init_37 : decode cX5_init 37 = .ok (.aload_n 0, 1) := by decide +kernel
theorem dX5_init_38 : decode cX5_init 38 = .ok (.new 30, 3) := by decide +kernel
theorem dX5_init_41 : decode cX5_init 41 = .ok (.dup, 1) := by decide +kernel
theorem dX5_init_42 : decode cX5_init 42 = .ok (.invokespecial 32, 3) := by decide +kernel
theorem dX5_init_45 : decode cX5_init 45 = .ok (.putfield 33, 3) := by decide +kernel
theorem dX5_init_48 : decode cX5_init 48 = .ok (.aload_n 0, 1) := by decide +kernel
theorem dX5_init_49 : decode cX5_init 49 = .ok (.new 37, 3) := by decide +kernel
theorem dX5_init_52 : decode cX5_init 52 = .ok (.dup, 1) := by decide +kernel
theorem dX5_init_53 : decode cX5_init 53 = .ok (.invokespecial 39, 3) := by decide +kernel
theorem dX5_init_56 : decode cX5_init 56 = .ok (.putfield 40, 3) := by decide +kernel
theorem dX5_init_59 : decode cX5_init 59 = .ok (.return_, 1) := by decide +kernel
set_option maxRecDepth 20000 in
theorem ggX5_letter_X1_append : GoodIn wsX5_letter wsX1_append := goodIn_r _ [6, 7, 8, 18, 19] (by decide +kernel) (by decide +kernel)
set_option maxRecDepth 20000 in
theorem gX5_letter_X1_append : GoodIn wsX5_letter (wsV RX5 44 RX1 yX1_append wsX1_append) := goodIn_app (goodIn_of _ (by decide +kernel)) ggX5_letter_X1_append
set_option maxRecDepth 20000 in
theorem ggX5_letter_X1_size : GoodIn wsX5_letter wsX1_size := goodIn_r _ [12, 7, 18, 19] (by decide +kernel) (by decide +kernel)
set_option maxRecDepth 20000 in
theorem gX5_letter_X1_size : GoodIn wsX5_letter (wsV RX5 48 RX1 yX1_size wsX1_size) := goodIn_app (goodIn_of _ (by decide +kernel)) ggX5_letter_X1_size
theorem dX5_letter_0 : decode cX5_letter 0 = .ok (.iload_n 1, 1) := by decide +kernel
theorem dX5_letter_1 : decode cX5_letter 1 = .ok (.bipush 32, 2) := by decide +kernel
theorem dX5_letter_3 : decode cX5_letter 3 = .ok (.if_icmp .lt 9, 3) := by decide +kernel
theorem dX5_letter_6 : decode cX5_letter 6 = .ok (.iload_n 1, 1) := by decide +kernel
theorem dX5_letter_7 : decode cX5_letter 7 = .ok (.bipush 126, 2) := by decide +kernel
theorem dX5_letter_9 : decode cX5_letter 9 = .ok (.if_icmp .le 7, 3) := by decide +kernel
theorem dX5_letter_12 : decode cX5_letter 12 = .ok (.sipush (-1002), 3) := by decide +kernel
theorem dX5_letter_15 : decode cX5_letter 15 = .ok (.ireturn, 1) := by decide +kernel
theorem dX5_letter_16 : decode cX5_letter 16 = .ok (.aload_n 0, 1) := by decide +kernel
theorem dX5_letter_17 : decode cX5_letter 17 = .ok (.getfield 10, 3) := by decide +kernel
theorem dX5_letter_20 : decode cX5_letter 20 = .ok (.iload_n 1, 1) := by decide +kernel
theorem dX5_letter_21 : decode cX5_letter 21 = .ok (.invokevirtual 44, 3) := by decide +kernel
theorem dX5_letter_24 : decode cX5_letter 24 = .ok (.ifCond .eq 13, 3) := by decide +kernel
theorem dX5_letter_27 : decode cX5_letter 27 = .ok (.aload_n 0, 1) := by decide +kernel
theorem dX5_letter_28 : decode cX5_letter 28 = .ok (.getfield 10, 3) := by decide +kernel
theorem dX5_letter_31 : decode cX5_letter 31 = .ok (.invokevirtual 48, 3) := by decide +kernel
theorem dX5_letter_34 : decode cX5_letter 34 = .ok (.goto 6, 3) := by decide +kernel
theorem dX5_letter_37 : decode cX5_letter 37 = .ok (.sipush (-1004), 3) := by decide +kernel
theorem dX5_letter_40 : decode cX5_letter 40 = .ok (.ireturn, 1) := by decide +kernel
set_option maxRecDepth 20000 in
theorem ggX5_blank_X1_size : GoodIn wsX5_blank wsX1_size := goodIn_r _ [6, 7, 17, 18] (by decide +kernel) (by decide +kernel)
set_option maxRecDepth 20000 in
theorem gX5_blank_X1_size : GoodIn wsX5_blank (wsV RX5 48 RX1 yX1_size wsX1_size) := goodIn_app (goodIn_of _ (by decide +kernel)) ggX5_blank_X1_size
set_option maxRecDepth 20000 in
theorem ggX5_blank_X1_clear : GoodIn wsX5_blank wsX1_clear := goodIn_r _ [11, 7, 17, 18] (by decide +kernel) (by decide +kernel)
set_option maxRecDepth 20000 in
theorem gX5_blank_X1_clear : GoodIn wsX5_blank (wsV RX5 52 RX1 yX1_clear wsX1_clear) := goodIn_app (goodIn_of _ (by decide +kernel)) ggX5_blank_X1_clear
theorem dX5_blank_0 : decode cX5_blank 0 = .ok (.aload_n 0, 1) := by decide +kernel
theorem dX5_blank_1 : decode cX5_blank 1 = .ok (.getfield 10, 3) := by decide +kernel
theorem dX5_blank_4 : decode cX5_blank 4 = .ok (.invokevirtual 48, 3) := by decide +kernel
theorem dX5_blank_7 : decode cX5_blank 7 = .ok (.istore_n 1, 1) := by decide +kernel
theorem dX5_blank_8 : decode cX5_blank 8 = .ok (.aload_n 0, 1) := by decide +kernel
theorem dX5_blank_9 : decode cX5_blank 9 = .ok (.getfield 10, 3) := by decide +kernel
theorem dX5_blank_12 : decode cX5_blank 12 = .ok (.invokevirtual 52, 3) := by decide +kernel
theorem dX5_blank_15 : decode cX5_blank 15 = .ok (.iload_n 1, 1) := by decide +kernel
theorem dX5_blank_16 : decode cX5_blank 16 = .ok (.ireturn, 1) := by decide +kernel
set_option maxRecDepth 20000 in
theorem ggX5_fault_X2_readAsFarAsItGoes : GoodIn wsX5_fault wsX2_readAsFarAsItGoes := goodIn_r _ [7, 8, 9, 10, 6, 11, 12, 13, 14, 15, 16, 17, 18, 19, 20, 21, 22, 23, 24, 25, 26, 27, 28, 29, 30, 31, 32, 33, 34, 35, 36, 37, 38, 39, 40, 41, 42, 48, 49, 50, 51, 52, 53] (by decide +kernel) (by decide +kernel)
set_option maxRecDepth 20000 in
theorem gX5_fault_X2_readAsFarAsItGoes : GoodIn wsX5_fault (wsV RX5 55 RX2 yX2_readAsFarAsItGoes wsX2_readAsFarAsItGoes) := goodIn_app (goodIn_of _ (by decide +kernel)) ggX5_fault_X2_readAsFarAsItGoes
theorem dX5_fault_0 : decode cX5_fault 0 = .ok (.aload_n 0, 1) := by decide +kernel
theorem dX5_fault_1 : decode cX5_fault 1 = .ok (.getfield 19, 3) := by decide +kernel
theorem dX5_fault_4 : decode cX5_fault 4 = .ok (.aload_n 0, 1) := by decide +kernel
theorem dX5_fault_5 : decode cX5_fault 5 = .ok (.getfield 10, 3) := by decide +kernel
theorem dX5_fault_8 : decode cX5_fault 8 = .ok (.invokevirtual 55, 3) := by decide +kernel
theorem dX5_fault_11 : decode cX5_fault 11 = .ok (.ireturn, 1) := by decide +kernel
set_option maxRecDepth 20000 in
theorem ggX5_sums_X2_readAsFarAsItGoes : GoodIn wsX5_sums wsX2_readAsFarAsItGoes := goodIn_r _ [9, 10, 11, 12, 8, 13, 14, 15, 16, 17, 18, 19, 20, 21, 22, 23, 24, 25, 26, 27, 28, 29, 30, 31, 32, 33, 34, 35, 36, 37, 38, 39, 40, 41, 42, 43, 44, 138, 139, 140, 141, 142, 143] (by decide +kernel) (by decide +kernel)
set_option maxRecDepth 20000 in
theorem gX5_sums_X2_readAsFarAsItGoes : GoodIn wsX5_sums (wsV RX5 55 RX2 yX2_readAsFarAsItGoes wsX2_readAsFarAsItGoes) := goodIn_app (goodIn_of _ (by decide +kernel)) ggX5_sums_X2_readAsFarAsItGoes
set_option maxRecDepth 20000 in
theorem ggX5_sums_X1_size : GoodIn wsX5_sums wsX1_size := goodIn_r _ [22, 23, 142, 143] (by decide +kernel) (by decide +kernel)
set_option maxRecDepth 20000 in
theorem gX5_sums_X1_size : GoodIn wsX5_sums (wsV RX5 48 RX1 yX1_size wsX1_size) := goodIn_app (goodIn_of _ (by decide +kernel)) ggX5_sums_X1_size
set_option maxRecDepth 20000 in
theorem ggX5_sums_X2_rowIsWhole : GoodIn wsX5_sums wsX2_rowIsWhole := goodIn_r _ [40, 15, 16, 17, 138, 139, 140, 141] (by decide +kernel) (by decide +kernel)
set_option maxRecDepth 20000 in
theorem gX5_sums_X2_rowIsWhole : GoodIn wsX5_sums (wsV RX5 59 RX2 yX2_rowIsWhole wsX2_rowIsWhole) := goodIn_app (goodIn_of _ (by decide +kernel)) ggX5_sums_X2_rowIsWhole
set_option maxRecDepth 20000 in
theorem ggX5_sums_X3_become : GoodIn wsX5_sums wsX3_become := goodIn_r _ [51, 52, 53, 54, 55, 56, 57, 58, 59, 8, 60, 15, 61, 62, 63, 64, 16, 65, 66, 67, 68, 14, 69, 70, 71, 50, 72, 73, 74, 75, 76, 77, 78, 79, 80, 81, 82, 83, 84, 85, 86, 87, 88, 89, 90, 91, 92, 93, 94, 95, 96, 97, 98, 99, 100, 101, 102, 103, 104, 105, 106, 107, 108, 109, 110, 111, 112, 113, 114, 115, 116, 117, 118, 144, 145, 146, 147, 148, 149, 150, 151, 152, 138, 139, 140, 141] (by decide +kernel) (by decide +kernel)
set_option maxRecDepth 20000 in
theorem gX5_sums_X3_become : GoodIn wsX5_sums (wsV RX5 63 RX3 yX3_become wsX3_become) := goodIn_app (goodIn_of _ (by decide +kernel)) ggX5_sums_X3_become
set_option maxRecDepth 20000 in
theorem ggX5_sums_X4_sumsRead : GoodIn wsX5_sums wsX4_sumsRead := goodIn_r _ [123, 124, 153, 154, 155, 156] (by decide +kernel) (by decide +kernel)
set_option maxRecDepth 20000 in
theorem gX5_sums_X4_sumsRead : GoodIn wsX5_sums (wsV RX5 67 RX4 yX4_sumsRead wsX4_sumsRead) := goodIn_app (goodIn_of _ (by decide +kernel)) ggX5_sums_X4_sumsRead
set_option maxRecDepth 20000 in
theorem ggX5_sums_X1_clear : GoodIn wsX5_sums wsX1_clear := goodIn_r _ [128, 23, 142, 143] (by decide +kernel) (by decide +kernel)
set_option maxRecDepth 20000 in
theorem gX5_sums_X1_clear : GoodIn wsX5_sums (wsV RX5 52 RX1 yX1_clear wsX1_clear) := goodIn_app (goodIn_of _ (by decide +kernel)) ggX5_sums_X1_clear
set_option maxRecDepth 20000 in
theorem ggX5_sums_X3_length : GoodIn wsX5_sums wsX3_length := goodIn_r _ [132, 53, 144, 145, 146, 147, 148, 149, 150, 151, 152] (by decide +kernel) (by decide +kernel)
set_option maxRecDepth 20000 in
theorem gX5_sums_X3_length : GoodIn wsX5_sums (wsV RX5 70 RX3 yX3_length wsX3_length) := goodIn_app (goodIn_of _ (by decide +kernel)) ggX5_sums_X3_length
theorem dX5_sums_0 : decode cX5_sums 0 = .ok (.aload_n 0, 1) := by decide +kernel
theorem dX5_sums_1 : decode cX5_sums 1 = .ok (.getfield 19, 3) := by decide +kernel
theorem dX5_sums_4 : decode cX5_sums 4 = .ok (.aload_n 0, 1) := by decide +kernel
theorem dX5_sums_5 : decode cX5_sums 5 = .ok (.getfield 10, 3) := by decide +kernel
theorem dX5_sums_8 : decode cX5_sums 8 = .ok (.invokevirtual 55, 3) := by decide +kernel
theorem dX5_sums_11 : decode cX5_sums 11 = .ok (.aload_n 0, 1) := by decide +kernel
theorem dX5_sums_12 : decode cX5_sums 12 = .ok (.getfield 10, 3) := by decide +kernel
theorem dX5_sums_15 : decode cX5_sums 15 = .ok (.invokevirtual 48, 3) := by decide +kernel
theorem dX5_sums_18 : decode cX5_sums 18 = .ok (.if_icmp .lt 13, 3) := by decide +kernel
theorem dX5_sums_21 : decode cX5_sums 21 = .ok (.aload_n 0, 1) := by decide +kernel
theorem dX5_sums_22 : decode cX5_sums 22 = .ok (.getfield 19, 3) := by decide +kernel
theorem dX5_sums_25 : decode cX5_sums 25 = .ok (.invokevirtual 59, 3) := by decide +kernel
theorem dX5_sums_28 : decode cX5_sums 28 = .ok (.ifCond .ne 7, 3) := by decide +kernel
theorem dX5_sums_31 : decode cX5_sums 31 = .ok (.sipush (-1003), 3) := by decide +kernel
theorem dX5_sums_34 : decode cX5_sums 34 = .ok (.ireturn, 1) := by decide +kernel
theorem dX5_sums_35 : decode cX5_sums 35 = .ok (.aload_n 0, 1) := by decide +kernel
theorem dX5_sums_36 : decode cX5_sums 36 = .ok (.getfield 26, 3) := by decide +kernel
theorem dX5_sums_39 : decode cX5_sums 39 = .ok (.aload_n 0, 1) := by decide +kernel
theorem dX5_sums_40 : decode cX5_sums 40 = .ok (.getfield 19, 3) := by decide +kernel
theorem dX5_sums_43 : decode cX5_sums 43 = .ok (.invokevirtual 63, 3) := by decide +kernel
theorem dX5_sums_46 : decode cX5_sums 46 = .ok (.aload_n 0, 1) := by decide +kernel
theorem dX5_sums_47 : decode cX5_sums 47 = .ok (.getfield 33, 3) := by decide +kernel
theorem dX5_sums_50 : decode cX5_sums 50 = .ok (.invokevirtual 67, 3) := by decide +kernel
theorem dX5_sums_53 : decode cX5_sums 53 = .ok (.aload_n 0, 1) := by decide +kernel
theorem dX5_sums_54 : decode cX5_sums 54 = .ok (.getfield 10, 3) := by decide +kernel
theorem dX5_sums_57 : decode cX5_sums 57 = .ok (.invokevirtual 52, 3) := by decide +kernel
theorem dX5_sums_60 : decode cX5_sums 60 = .ok (.aload_n 0, 1) := by decide +kernel
theorem dX5_sums_61 : decode cX5_sums 61 = .ok (.getfield 26, 3) := by decide +kernel
theorem dX5_sums_64 : decode cX5_sums 64 = .ok (.invokevirtual 70, 3) := by decide +kernel
theorem dX5_sums_67 : decode cX5_sums 67 = .ok (.ireturn, 1) := by decide +kernel
set_option maxRecDepth 20000 in
theorem ggX5_code_X3_areThere : GoodIn wsX5_code wsX3_areThere := goodIn_r _ [6, 7, 42, 43, 44, 45, 46, 47, 48, 49, 50] (by decide +kernel) (by decide +kernel)
set_option maxRecDepth 20000 in
theorem gX5_code_X3_areThere : GoodIn wsX5_code (wsV RX5 73 RX3 yX3_areThere wsX3_areThere) := goodIn_app (goodIn_of _ (by decide +kernel)) ggX5_code_X3_areThere
set_option maxRecDepth 20000 in
theorem ggX5_code_X3_length : GoodIn wsX5_code wsX3_length := goodIn_r _ [11, 7, 42, 43, 44, 45, 46, 47, 48, 49, 50] (by decide +kernel) (by decide +kernel)
set_option maxRecDepth 20000 in
theorem gX5_code_X3_length : GoodIn wsX5_code (wsV RX5 70 RX3 yX3_length wsX3_length) := goodIn_app (goodIn_of _ (by decide +kernel)) ggX5_code_X3_length
set_option maxRecDepth 20000 in
theorem ggX5_code_X3_rowCount : GoodIn wsX5_code wsX3_rowCount := goodIn_r _ [15, 16, 42, 43, 44, 45, 46, 47, 48, 49, 50] (by decide +kernel) (by decide +kernel)
set_option maxRecDepth 20000 in
theorem gX5_code_X3_rowCount : GoodIn wsX5_code (wsV RX5 76 RX3 yX3_rowCount wsX3_rowCount) := goodIn_app (goodIn_of _ (by decide +kernel)) ggX5_code_X3_rowCount
set_option maxRecDepth 20000 in
theorem ggX5_code_X3_rank : GoodIn wsX5_code wsX3_rank := goodIn_r _ [20, 21, 42, 43, 44, 45, 46, 47, 48, 49, 50] (by decide +kernel) (by decide +kernel)
set_option maxRecDepth 20000 in
theorem gX5_code_X3_rank : GoodIn wsX5_code (wsV RX5 79 RX3 yX3_rank wsX3_rank) := goodIn_app (goodIn_of _ (by decide +kernel)) ggX5_code_X3_rank
set_option maxRecDepth 20000 in
theorem ggX5_code_X3_distanceOrNone : GoodIn wsX5_code wsX3_distanceOrNone := goodIn_r _ [25, 26, 7, 42, 43, 44, 45, 46, 47, 48, 49, 50] (by decide +kernel) (by decide +kernel)
set_option maxRecDepth 20000 in
theorem gX5_code_X3_distanceOrNone : GoodIn wsX5_code (wsV RX5 82 RX3 yX3_distanceOrNone wsX3_distanceOrNone) := goodIn_app (goodIn_of _ (by decide +kernel)) ggX5_code_X3_distanceOrNone
set_option maxRecDepth 20000 in
theorem ggX5_code_X3_sure : GoodIn wsX5_code wsX3_sure := goodIn_r _ [30, 31, 42, 43, 44, 45, 46, 47, 48, 49, 50] (by decide +kernel) (by decide +kernel)
set_option maxRecDepth 20000 in
theorem gX5_code_X3_sure : GoodIn wsX5_code (wsV RX5 85 RX3 yX3_sure wsX3_sure) := goodIn_app (goodIn_of _ (by decide +kernel)) ggX5_code_X3_sure
set_option maxRecDepth 20000 in
theorem ggX5_code_X3_radius : GoodIn wsX5_code wsX3_radius := goodIn_r _ [35, 36, 42, 43, 44, 45, 46, 47, 48, 49, 50] (by decide +kernel) (by decide +kernel)
set_option maxRecDepth 20000 in
theorem gX5_code_X3_radius : GoodIn wsX5_code (wsV RX5 88 RX3 yX3_radius wsX3_radius) := goodIn_app (goodIn_of _ (by decide +kernel)) ggX5_code_X3_radius
theorem dX5_code_0 : decode cX5_code 0 = .ok (.iload_n 1, 1) := by decide +kernel
theorem dX5_code_1 : decode cX5_code 1 = .ok (.ifCond .lt 9, 3) := by decide +kernel
theorem dX5_code_4 : decode cX5_code 4 = .ok (.iload_n 1, 1) := by decide +kernel
theorem dX5_code_5 : decode cX5_code 5 = .ok (.bipush 6, 2) := by decide +kernel
theorem dX5_code_7 : decode cX5_code 7 = .ok (.if_icmp .le 7, 3) := by decide +kernel
theorem dX5_code_10 : decode cX5_code 10 = .ok (.sipush (-1002), 3) := by decide +kernel
theorem dX5_code_13 : decode cX5_code 13 = .ok (.ireturn, 1) := by decide +kernel
theorem dX5_code_14 : decode cX5_code 14 = .ok (.aload_n 0, 1) := by decide +kernel
theorem dX5_code_15 : decode cX5_code 15 = .ok (.getfield 26, 3) := by decide +kernel
theorem dX5_code_18 : decode cX5_code 18 = .ok (.invokevirtual 73, 3) := by decide +kernel
theorem dX5_code_21 : decode cX5_code 21 = .ok (.ifCond .ne 7, 3) := by decide +kernel
theorem dX5_code_24 : decode cX5_code 24 = .ok (.sipush (-1003), 3) := by decide +kernel
theorem dX5_code_27 : decode cX5_code 27 = .ok (.ireturn, 1) := by decide +kernel
theorem dX5_code_28 : decode cX5_code 28 = .ok (.iload_n 1, 1) := by decide +kernel
theorem dX5_code_29 : decode cX5_code 29 = .ok (.tableswitch 87 0 5 #[39, 47, 55, 63, 71, 79], 39) := by decide +kernel
theorem dX5_code_68 : decode cX5_code 68 = .ok (.aload_n 0, 1) := by decide +kernel
theorem dX5_code_69 : decode cX5_code 69 = .ok (.getfield 26, 3) := by decide +kernel
theorem dX5_code_72 : decode cX5_code 72 = .ok (.invokevirtual 70, 3) := by decide +kernel
theorem dX5_code_75 : decode cX5_code 75 = .ok (.ireturn, 1) := by decide +kernel
theorem dX5_code_76 : decode cX5_code 76 = .ok (.aload_n 0, 1) := by decide +kernel
theorem dX5_code_77 : decode cX5_code 77 = .ok (.getfield 26, 3) := by decide +kernel
theorem dX5_code_80 : decode cX5_code 80 = .ok (.invokevirtual 76, 3) := by decide +kernel
theorem dX5_code_83 : decode cX5_code 83 = .ok (.ireturn, 1) := by decide +kernel
theorem dX5_code_84 : decode cX5_code 84 = .ok (.aload_n 0, 1) := by decide +kernel
theorem dX5_code_85 : decode cX5_code 85 = .ok (.getfield 26, 3) := by decide +kernel
theorem dX5_code_88 : decode cX5_code 88 = .ok (.invokevirtual 79, 3) := by decide +kernel
theorem dX5_code_91 : decode cX5_code 91 = .ok (.ireturn, 1) := by decide +kernel
theorem dX5_code_92 : decode cX5_code 92 = .ok (.aload_n 0, 1) := by decide +kernel
theorem dX5_code_93 : decode cX5_code 93 = .ok (.getfield 26, 3) := by decide +kernel
theorem dX5_code_96 : decode cX5_code 96 = .ok (.invokevirtual 82, 3) := by decide +kernel
theorem dX5_code_99 : decode cX5_code 99 = .ok (.ireturn, 1) := by decide +kernel
theorem dX5_code_100 : decode cX5_code 100 = .ok (.aload_n 0, 1) := by decide +kernel
theorem dX5_code_101 : decode cX5_code 101 = .ok (.getfield 26, 3) := by decide +kernel
theorem dX5_code_104 : decode cX5_code 104 = .ok (.invokevirtual 85, 3) := by decide +kernel
theorem dX5_code_107 : decode cX5_code 107 = .ok (.ireturn, 1) := by decide +kernel
theorem dX5_code_108 : decode cX5_code 108 = .ok (.aload_n 0, 1) := by decide +kernel
theorem dX5_code_109 : decode cX5_code 109 = .ok (.getfield 26, 3) := by decide +kernel
theorem dX5_code_112 : decode cX5_code 112 = .ok (.invokevirtual 88, 3) := by decide +kernel
theorem dX5_code_115 : decode cX5_code 115 = .ok (.ireturn, 1) := by decide +kernel
theorem dX5_code_116 : decode cX5_code 116 = .ok (.aload_n 0, 1) := by decide +kernel
theorem dX5_code_117 : decode cX5_code 117 = .ok (.getfield 26, 3) := by decide +kernel
theorem dX5_code_120 : decode cX5_code 120 = .ok (.invokevirtual 88, 3) := by decide +kernel
theorem dX5_code_123 : decode cX5_code 123 = .ok (.aload_n 0, 1) := by decide +kernel
theorem dX5_code_124 : decode cX5_code 124 = .ok (.getfield 26, 3) := by decide +kernel
theorem dX5_code_127 : decode cX5_code 127 = .ok (.invokevirtual 85, 3) := by decide +kernel
theorem dX5_code_130 : decode cX5_code 130 = .ok (.if_icmp .ne 7, 3) := by decide +kernel
theorem dX5_code_133 : decode cX5_code 133 = .ok (.iconst 1, 1) := by decide +kernel
theorem dX5_code_134 : decode cX5_code 134 = .ok (.goto 4, 3) := by decide +kernel
theorem dX5_code_137 : decode cX5_code 137 = .ok (.iconst 0, 1) := by decide +kernel
theorem dX5_code_138 : decode cX5_code 138 = .ok (.ireturn, 1) := by decide +kernel
set_option maxRecDepth 20000 in
theorem ggX5_row_X3_areThere : GoodIn wsX5_row wsX3_areThere := goodIn_r _ [6, 7, 24, 25, 26, 27, 28, 29, 30, 31, 32] (by decide +kernel) (by decide +kernel)
set_option maxRecDepth 20000 in
theorem gX5_row_X3_areThere : GoodIn wsX5_row (wsV RX5 73 RX3 yX3_areThere wsX3_areThere) := goodIn_app (goodIn_of _ (by decide +kernel)) ggX5_row_X3_areThere
set_option maxRecDepth 20000 in
theorem ggX5_row_X3_isRow : GoodIn wsX5_row wsX3_isRow := goodIn_r _ [11, 12, 13, 24, 25, 26, 27, 28, 29, 30, 31, 32] (by decide +kernel) (by decide +kernel)
set_option maxRecDepth 20000 in
theorem gX5_row_X3_isRow : GoodIn wsX5_row (wsV RX5 91 RX3 yX3_isRow wsX3_isRow) := goodIn_app (goodIn_of _ (by decide +kernel)) ggX5_row_X3_isRow
set_option maxRecDepth 20000 in
theorem ggX5_row_X3_rowAt : GoodIn wsX5_row wsX3_rowAt := goodIn_r _ [17, 13, 18, 9, 10, 5, 11, 12, 24, 25, 26, 27, 28, 29, 30, 31, 32] (by decide +kernel) (by decide +kernel)
set_option maxRecDepth 20000 in
theorem gX5_row_X3_rowAt : GoodIn wsX5_row (wsV RX5 94 RX3 yX3_rowAt wsX3_rowAt) := goodIn_app (goodIn_of _ (by decide +kernel)) ggX5_row_X3_rowAt
theorem dX5_row_0 : decode cX5_row 0 = .ok (.aload_n 0, 1) := by decide +kernel
theorem dX5_row_1 : decode cX5_row 1 = .ok (.getfield 26, 3) := by decide +kernel
theorem dX5_row_4 : decode cX5_row 4 = .ok (.invokevirtual 73, 3) := by decide +kernel
theorem dX5_row_7 : decode cX5_row 7 = .ok (.ifCond .ne 7, 3) := by decide +kernel
theorem dX5_row_10 : decode cX5_row 10 = .ok (.sipush (-1003), 3) := by decide +kernel
theorem dX5_row_13 : decode cX5_row 13 = .ok (.ireturn, 1) := by decide +kernel
theorem dX5_row_14 : decode cX5_row 14 = .ok (.aload_n 0, 1) := by decide +kernel
theorem dX5_row_15 : decode cX5_row 15 = .ok (.getfield 26, 3) := by decide +kernel
theorem dX5_row_18 : decode cX5_row 18 = .ok (.iload_n 1, 1) := by decide +kernel
theorem dX5_row_19 : decode cX5_row 19 = .ok (.invokevirtual 91, 3) := by decide +kernel
theorem dX5_row_22 : decode cX5_row 22 = .ok (.ifCond .eq 14, 3) := by decide +kernel
theorem dX5_row_25 : decode cX5_row 25 = .ok (.aload_n 0, 1) := by decide +kernel
theorem dX5_row_26 : decode cX5_row 26 = .ok (.getfield 26, 3) := by decide +kernel
theorem dX5_row_29 : decode cX5_row 29 = .ok (.iload_n 1, 1) := by decide +kernel
theorem dX5_row_30 : decode cX5_row 30 = .ok (.invokevirtual 94, 3) := by decide +kernel
theorem dX5_row_33 : decode cX5_row 33 = .ok (.goto 6, 3) := by decide +kernel
theorem dX5_row_36 : decode cX5_row 36 = .ok (.sipush (-1002), 3) := by decide +kernel
theorem dX5_row_39 : decode cX5_row 39 = .ok (.ireturn, 1) := by decide +kernel
set_option maxRecDepth 20000 in
theorem ggX5_syndrome_X3_areThere : GoodIn wsX5_syndrome wsX3_areThere := goodIn_r _ [6, 7, 34, 35, 36, 37, 38, 39, 40, 41, 42] (by decide +kernel) (by decide +kernel)
set_option maxRecDepth 20000 in
theorem gX5_syndrome_X3_areThere : GoodIn wsX5_syndrome (wsV RX5 73 RX3 yX3_areThere wsX3_areThere) := goodIn_app (goodIn_of _ (by decide +kernel)) ggX5_syndrome_X3_areThere
set_option maxRecDepth 20000 in
theorem ggX5_syndrome_X3_isWord : GoodIn wsX5_syndrome wsX3_isWord := goodIn_r _ [11, 12, 13, 14, 5, 15, 7, 34, 35, 36, 37, 38, 39, 40, 41, 42] (by decide +kernel) (by decide +kernel)
set_option maxRecDepth 20000 in
theorem gX5_syndrome_X3_isWord : GoodIn wsX5_syndrome (wsV RX5 98 RX3 yX3_isWord wsX3_isWord) := goodIn_app (goodIn_of _ (by decide +kernel)) ggX5_syndrome_X3_isWord
set_option maxRecDepth 20000 in
theorem ggX5_syndrome_X3_syndromeOf : GoodIn wsX5_syndrome wsX3_syndromeOf := goodIn_r _ [19, 20, 21, 22, 23, 24, 25, 26, 27, 28, 34, 35, 36, 37, 38, 39, 40, 41, 42] (by decide +kernel) (by decide +kernel)
set_option maxRecDepth 20000 in
theorem gX5_syndrome_X3_syndromeOf : GoodIn wsX5_syndrome (wsV RX5 101 RX3 yX3_syndromeOf wsX3_syndromeOf) := goodIn_app (goodIn_of _ (by decide +kernel)) ggX5_syndrome_X3_syndromeOf
theorem dX5_syndrome_0 : decode cX5_syndrome 0 = .ok (.aload_n 0, 1) := by decide +kernel
theorem dX5_syndrome_1 : decode cX5_syndrome 1 = .ok (.getfield 26, 3) := by decide +kernel
theorem dX5_syndrome_4 : decode cX5_syndrome 4 = .ok (.invokevirtual 73, 3) := by decide +kernel
theorem dX5_syndrome_7 : decode cX5_syndrome 7 = .ok (.ifCond .ne 7, 3) := by decide +kernel
theorem dX5_syndrome_10 : decode cX5_syndrome 10 = .ok (.sipush (-1003), 3) := by decide +kernel
theorem dX5_syndrome_13 : decode cX5_syndrome 13 = .ok (.ireturn, 1) := by decide +kernel
theorem dX5_syndrome_14 : decode cX5_syndrome 14 = .ok (.aload_n 0, 1) := by decide +kernel
theorem dX5_syndrome_15 : decode cX5_syndrome 15 = .ok (.getfield 26, 3) := by decide +kernel
theorem dX5_syndrome_18 : decode cX5_syndrome 18 = .ok (.iload_n 1, 1) := by decide +kernel
theorem dX5_syndrome_19 : decode cX5_syndrome 19 = .ok (.invokevirtual 98, 3) := by decide +kernel
theorem dX5_syndrome_22 : decode cX5_syndrome 22 = .ok (.ifCond .eq 14, 3) := by decide +kernel
theorem dX5_syndrome_25 : decode cX5_syndrome 25 = .ok (.aload_n 0, 1) := by decide +kernel
theorem dX5_syndrome_26 : decode cX5_syndrome 26 = .ok (.getfield 26, 3) := by decide +kernel
theorem dX5_syndrome_29 : decode cX5_syndrome 29 = .ok (.iload_n 1, 1) := by decide +kernel
theorem dX5_syndrome_30 : decode cX5_syndrome 30 = .ok (.invokevirtual 101, 3) := by decide +kernel
theorem dX5_syndrome_33 : decode cX5_syndrome 33 = .ok (.goto 6, 3) := by decide +kernel
theorem dX5_syndrome_36 : decode cX5_syndrome 36 = .ok (.sipush (-1002), 3) := by decide +kernel
theorem dX5_syndrome_39 : decode cX5_syndrome 39 = .ok (.ireturn, 1) := by decide +kernel
set_option maxRecDepth 20000 in
theorem ggX5_leader_X3_areThere : GoodIn wsX5_leader wsX3_areThere := goodIn_r _ [6, 7, 28, 29, 30, 31, 32, 33, 34, 35, 36] (by decide +kernel) (by decide +kernel)
set_option maxRecDepth 20000 in
theorem gX5_leader_X3_areThere : GoodIn wsX5_leader (wsV RX5 73 RX3 yX3_areThere wsX3_areThere) := goodIn_app (goodIn_of _ (by decide +kernel)) ggX5_leader_X3_areThere
set_option maxRecDepth 20000 in
theorem ggX5_leader_X3_isSyndrome : GoodIn wsX5_leader wsX3_isSyndrome := goodIn_r _ [11, 12, 13, 14, 15, 5, 16, 17, 28, 29, 30, 31, 32, 33, 34, 35, 36] (by decide +kernel) (by decide +kernel)
set_option maxRecDepth 20000 in
theorem gX5_leader_X3_isSyndrome : GoodIn wsX5_leader (wsV RX5 104 RX3 yX3_isSyndrome wsX3_isSyndrome) := goodIn_app (goodIn_of _ (by decide +kernel)) ggX5_leader_X3_isSyndrome
set_option maxRecDepth 20000 in
theorem ggX5_leader_X3_leaderOf : GoodIn wsX5_leader wsX3_leaderOf := goodIn_r _ [21, 12, 22, 9, 10, 5, 11, 13, 14, 15, 16, 17, 28, 29, 30, 31, 32, 33, 34, 35, 36] (by decide +kernel) (by decide +kernel)
set_option maxRecDepth 20000 in
theorem gX5_leader_X3_leaderOf : GoodIn wsX5_leader (wsV RX5 107 RX3 yX3_leaderOf wsX3_leaderOf) := goodIn_app (goodIn_of _ (by decide +kernel)) ggX5_leader_X3_leaderOf
theorem dX5_leader_0 : decode cX5_leader 0 = .ok (.aload_n 0, 1) := by decide +kernel
theorem dX5_leader_1 : decode cX5_leader 1 = .ok (.getfield 26, 3) := by decide +kernel
theorem dX5_leader_4 : decode cX5_leader 4 = .ok (.invokevirtual 73, 3) := by decide +kernel
theorem dX5_leader_7 : decode cX5_leader 7 = .ok (.ifCond .ne 7, 3) := by decide +kernel
theorem dX5_leader_10 : decode cX5_leader 10 = .ok (.sipush (-1003), 3) := by decide +kernel
theorem dX5_leader_13 : decode cX5_leader 13 = .ok (.ireturn, 1) := by decide +kernel
theorem dX5_leader_14 : decode cX5_leader 14 = .ok (.aload_n 0, 1) := by decide +kernel
theorem dX5_leader_15 : decode cX5_leader 15 = .ok (.getfield 26, 3) := by decide +kernel
theorem dX5_leader_18 : decode cX5_leader 18 = .ok (.iload_n 1, 1) := by decide +kernel
theorem dX5_leader_19 : decode cX5_leader 19 = .ok (.invokevirtual 104, 3) := by decide +kernel
theorem dX5_leader_22 : decode cX5_leader 22 = .ok (.ifCond .eq 14, 3) := by decide +kernel
theorem dX5_leader_25 : decode cX5_leader 25 = .ok (.aload_n 0, 1) := by decide +kernel
theorem dX5_leader_26 : decode cX5_leader 26 = .ok (.getfield 26, 3) := by decide +kernel
theorem dX5_leader_29 : decode cX5_leader 29 = .ok (.iload_n 1, 1) := by decide +kernel
theorem dX5_leader_30 : decode cX5_leader 30 = .ok (.invokevirtual 107, 3) := by decide +kernel
theorem dX5_leader_33 : decode cX5_leader 33 = .ok (.goto 6, 3) := by decide +kernel
theorem dX5_leader_36 : decode cX5_leader 36 = .ok (.sipush (-1002), 3) := by decide +kernel
theorem dX5_leader_39 : decode cX5_leader 39 = .ok (.ireturn, 1) := by decide +kernel
set_option maxRecDepth 20000 in
theorem ggX5_coset_X3_areThere : GoodIn wsX5_coset wsX3_areThere := goodIn_r _ [6, 7, 43, 44, 45, 46, 47, 48, 49, 50, 51] (by decide +kernel) (by decide +kernel)
set_option maxRecDepth 20000 in
theorem gX5_coset_X3_areThere : GoodIn wsX5_coset (wsV RX5 73 RX3 yX3_areThere wsX3_areThere) := goodIn_app (goodIn_of _ (by decide +kernel)) ggX5_coset_X3_areThere
set_option maxRecDepth 20000 in
theorem ggX5_coset_X3_isSyndrome : GoodIn wsX5_coset wsX3_isSyndrome := goodIn_r _ [11, 12, 13, 14, 15, 5, 16, 17, 43, 44, 45, 46, 47, 48, 49, 50, 51] (by decide +kernel) (by decide +kernel)
set_option maxRecDepth 20000 in
theorem gX5_coset_X3_isSyndrome : GoodIn wsX5_coset (wsV RX5 104 RX3 yX3_isSyndrome wsX3_isSyndrome) := goodIn_app (goodIn_of _ (by decide +kernel)) ggX5_coset_X3_isSyndrome
set_option maxRecDepth 20000 in
theorem ggX5_coset_X3_wordOfCoset : GoodIn wsX5_coset wsX3_wordOfCoset := goodIn_r _ [21, 22, 23, 24, 5, 25, 7, 26, 27, 28, 29, 17, 30, 31, 32, 33, 34, 35, 36, 37, 43, 44, 45, 46, 47, 48, 49, 50, 51] (by decide +kernel) (by decide +kernel)
set_option maxRecDepth 20000 in
theorem gX5_coset_X3_wordOfCoset : GoodIn wsX5_coset (wsV RX5 110 RX3 yX3_wordOfCoset wsX3_wordOfCoset) := goodIn_app (goodIn_of _ (by decide +kernel)) ggX5_coset_X3_wordOfCoset
theorem dX5_coset_0 : decode cX5_coset 0 = .ok (.aload_n 0, 1) := by decide +kernel
theorem dX5_coset_1 : decode cX5_coset 1 = .ok (.getfield 26, 3) := by decide +kernel
theorem dX5_coset_4 : decode cX5_coset 4 = .ok (.invokevirtual 73, 3) := by decide +kernel
theorem dX5_coset_7 : decode cX5_coset 7 = .ok (.ifCond .ne 7, 3) := by decide +kernel
theorem dX5_coset_10 : decode cX5_coset 10 = .ok (.sipush (-1003), 3) := by decide +kernel
theorem dX5_coset_13 : decode cX5_coset 13 = .ok (.ireturn, 1) := by decide +kernel
theorem dX5_coset_14 : decode cX5_coset 14 = .ok (.aload_n 0, 1) := by decide +kernel
theorem dX5_coset_15 : decode cX5_coset 15 = .ok (.getfield 26, 3) := by decide +kernel
theorem dX5_coset_18 : decode cX5_coset 18 = .ok (.iload_n 1, 1) := by decide +kernel
theorem dX5_coset_19 : decode cX5_coset 19 = .ok (.invokevirtual 104, 3) := by decide +kernel
theorem dX5_coset_22 : decode cX5_coset 22 = .ok (.ifCond .eq 15, 3) := by decide +kernel
theorem dX5_coset_25 : decode cX5_coset 25 = .ok (.aload_n 0, 1) := by decide +kernel
theorem dX5_coset_26 : decode cX5_coset 26 = .ok (.getfield 26, 3) := by decide +kernel
theorem dX5_coset_29 : decode cX5_coset 29 = .ok (.iload_n 1, 1) := by decide +kernel
theorem dX5_coset_30 : decode cX5_coset 30 = .ok (.iload_n 2, 1) := by decide +kernel
theorem dX5_coset_31 : decode cX5_coset 31 = .ok (.invokevirtual 110, 3) := by decide +kernel
theorem dX5_coset_34 : decode cX5_coset 34 = .ok (.goto 6, 3) := by decide +kernel
theorem dX5_coset_37 : decode cX5_coset 37 = .ok (.sipush (-1002), 3) := by decide +kernel
theorem dX5_coset_40 : decode cX5_coset 40 = .ok (.ireturn, 1) := by decide +kernel
set_option maxRecDepth 20000 in
theorem ggX5_leaders_X3_areThere : GoodIn wsX5_leaders wsX3_areThere := goodIn_r _ [6, 7, 23, 24, 25, 26, 27, 28, 29, 30, 31] (by decide +kernel) (by decide +kernel)
set_option maxRecDepth 20000 in
theorem gX5_leaders_X3_areThere : GoodIn wsX5_leaders (wsV RX5 73 RX3 yX3_areThere wsX3_areThere) := goodIn_app (goodIn_of _ (by decide +kernel)) ggX5_leaders_X3_areThere
set_option maxRecDepth 20000 in
theorem ggX5_leaders_X3_isWeight : GoodIn wsX5_leaders wsX3_isWeight := goodIn_r _ [11, 7, 12, 23, 24, 25, 26, 27, 28, 29, 30, 31] (by decide +kernel) (by decide +kernel)
set_option maxRecDepth 20000 in
theorem gX5_leaders_X3_isWeight : GoodIn wsX5_leaders (wsV RX5 114 RX3 yX3_isWeight wsX3_isWeight) := goodIn_app (goodIn_of _ (by decide +kernel)) ggX5_leaders_X3_isWeight
set_option maxRecDepth 20000 in
theorem ggX5_leaders_X3_leadersOfWeight : GoodIn wsX5_leaders wsX3_leadersOfWeight := goodIn_r _ [16, 12, 17, 9, 10, 5, 11, 7, 23, 24, 25, 26, 27, 28, 29, 30, 31] (by decide +kernel) (by decide +kernel)
set_option maxRecDepth 20000 in
theorem gX5_leaders_X3_leadersOfWeight : GoodIn wsX5_leaders (wsV RX5 117 RX3 yX3_leadersOfWeight wsX3_leadersOfWeight) := goodIn_app (goodIn_of _ (by decide +kernel)) ggX5_leaders_X3_leadersOfWeight
theorem dX5_leaders_0 : decode cX5_leaders 0 = .ok (.aload_n 0, 1) := by decide +kernel
theorem dX5_leaders_1 : decode cX5_leaders 1 = .ok (.getfield 26, 3) := by decide +kernel
theorem dX5_leaders_4 : decode cX5_leaders 4 = .ok (.invokevirtual 73, 3) := by decide +kernel
theorem dX5_leaders_7 : decode cX5_leaders 7 = .ok (.ifCond .ne 7, 3) := by decide +kernel
theorem dX5_leaders_10 : decode cX5_leaders 10 = .ok (.sipush (-1003), 3) := by decide +kernel
theorem dX5_leaders_13 : decode cX5_leaders 13 = .ok (.ireturn, 1) := by decide +kernel
theorem dX5_leaders_14 : decode cX5_leaders 14 = .ok (.aload_n 0, 1) := by decide +kernel
theorem dX5_leaders_15 : decode cX5_leaders 15 = .ok (.getfield 26, 3) := by decide +kernel
theorem dX5_leaders_18 : decode cX5_leaders 18 = .ok (.iload_n 1, 1) := by decide +kernel
theorem dX5_leaders_19 : decode cX5_leaders 19 = .ok (.invokevirtual 114, 3) := by decide +kernel
theorem dX5_leaders_22 : decode cX5_leaders 22 = .ok (.ifCond .eq 14, 3) := by decide +kernel
theorem dX5_leaders_25 : decode cX5_leaders 25 = .ok (.aload_n 0, 1) := by decide +kernel
theorem dX5_leaders_26 : decode cX5_leaders 26 = .ok (.getfield 26, 3) := by decide +kernel
theorem dX5_leaders_29 : decode cX5_leaders 29 = .ok (.iload_n 1, 1) := by decide +kernel
theorem dX5_leaders_30 : decode cX5_leaders 30 = .ok (.invokevirtual 117, 3) := by decide +kernel
theorem dX5_leaders_33 : decode cX5_leaders 33 = .ok (.goto 6, 3) := by decide +kernel
theorem dX5_leaders_36 : decode cX5_leaders 36 = .ok (.sipush (-1002), 3) := by decide +kernel
theorem dX5_leaders_39 : decode cX5_leaders 39 = .ok (.ireturn, 1) := by decide +kernel
set_option maxRecDepth 20000 in
theorem ggX5_better_X3_areThere : GoodIn wsX5_better wsX3_areThere := goodIn_r _ [6, 7, 48, 49, 50, 51, 52, 53, 54, 55, 56] (by decide +kernel) (by decide +kernel)
set_option maxRecDepth 20000 in
theorem gX5_better_X3_areThere : GoodIn wsX5_better (wsV RX5 73 RX3 yX3_areThere wsX3_areThere) := goodIn_app (goodIn_of _ (by decide +kernel)) ggX5_better_X3_areThere
set_option maxRecDepth 20000 in
theorem ggX5_better_X3_isRow : GoodIn wsX5_better wsX3_isRow := goodIn_r _ [11, 12, 13, 48, 49, 50, 51, 52, 53, 54, 55, 56] (by decide +kernel) (by decide +kernel)
set_option maxRecDepth 20000 in
theorem gX5_better_X3_isRow : GoodIn wsX5_better (wsV RX5 91 RX3 yX3_isRow wsX3_isRow) := goodIn_app (goodIn_of _ (by decide +kernel)) ggX5_better_X3_isRow
set_option maxRecDepth 20000 in
theorem ggX5_better_X3_isWord : GoodIn wsX5_better wsX3_isWord := goodIn_r _ [17, 18, 19, 20, 5, 21, 7, 48, 49, 50, 51, 52, 53, 54, 55, 56] (by decide +kernel) (by decide +kernel)
set_option maxRecDepth 20000 in
theorem gX5_better_X3_isWord : GoodIn wsX5_better (wsV RX5 98 RX3 yX3_isWord wsX3_isWord) := goodIn_app (goodIn_of _ (by decide +kernel)) ggX5_better_X3_isWord
set_option maxRecDepth 20000 in
theorem ggX5_better_X3_gainBy : GoodIn wsX5_better wsX3_gainBy := goodIn_r _ [25, 13, 26, 27, 9, 10, 5, 11, 12, 28, 29, 30, 31, 7, 18, 19, 20, 21, 32, 33, 34, 35, 36, 37, 38, 39, 40, 41, 42, 48, 49, 50, 51, 52, 53, 54, 55, 56] (by decide +kernel) (by decide +kernel)
set_option maxRecDepth 20000 in
theorem gX5_better_X3_gainBy : GoodIn wsX5_better (wsV RX5 120 RX3 yX3_gainBy wsX3_gainBy) := goodIn_app (goodIn_of _ (by decide +kernel)) ggX5_better_X3_gainBy
theorem dX5_better_0 : decode cX5_better 0 = .ok (.aload_n 0, 1) := by decide +kernel
theorem dX5_better_1 : decode cX5_better 1 = .ok (.getfield 26, 3) := by decide +kernel
theorem dX5_better_4 : decode cX5_better 4 = .ok (.invokevirtual 73, 3) := by decide +kernel
theorem dX5_better_7 : decode cX5_better 7 = .ok (.ifCond .ne 7, 3) := by decide +kernel
theorem dX5_better_10 : decode cX5_better 10 = .ok (.sipush (-1003), 3) := by decide +kernel
theorem dX5_better_13 : decode cX5_better 13 = .ok (.ireturn, 1) := by decide +kernel
theorem dX5_better_14 : decode cX5_better 14 = .ok (.aload_n 0, 1) := by decide +kernel
theorem dX5_better_15 : decode cX5_better 15 = .ok (.getfield 26, 3) := by decide +kernel
theorem dX5_better_18 : decode cX5_better 18 = .ok (.iload_n 1, 1) := by decide +kernel
theorem dX5_better_19 : decode cX5_better 19 = .ok (.invokevirtual 91, 3) := by decide +kernel
theorem dX5_better_22 : decode cX5_better 22 = .ok (.ifCond .eq 14, 3) := by decide +kernel
theorem dX5_better_25 : decode cX5_better 25 = .ok (.aload_n 0, 1) := by decide +kernel
theorem dX5_better_26 : decode cX5_better 26 = .ok (.getfield 26, 3) := by decide +kernel
theorem dX5_better_29 : decode cX5_better 29 = .ok (.iload_n 2, 1) := by decide +kernel
theorem dX5_better_30 : decode cX5_better 30 = .ok (.invokevirtual 98, 3) := by decide +kernel
theorem dX5_better_33 : decode cX5_better 33 = .ok (.ifCond .ne 7, 3) := by decide +kernel
theorem dX5_better_36 : decode cX5_better 36 = .ok (.sipush (-1002), 3) := by decide +kernel
theorem dX5_better_39 : decode cX5_better 39 = .ok (.ireturn, 1) := by decide +kernel
theorem dX5_better_40 : decode cX5_better 40 = .ok (.aload_n 0, 1) := by decide +kernel
theorem dX5_better_41 : decode cX5_better 41 = .ok (.getfield 26, 3) := by decide +kernel
theorem dX5_better_44 : decode cX5_better 44 = .ok (.iload_n 1, 1) := by decide +kernel
theorem dX5_better_45 : decode cX5_better 45 = .ok (.iload_n 2, 1) := by decide +kernel
theorem dX5_better_46 : decode cX5_better 46 = .ok (.invokevirtual 120, 3) := by decide +kernel
theorem dX5_better_49 : decode cX5_better 49 = .ok (.ireturn, 1) := by decide +kernel
set_option maxRecDepth 20000 in
theorem ggX5_send_X3_areThere : GoodIn wsX5_send wsX3_areThere := goodIn_r _ [6, 7, 79, 80, 81, 82, 83, 84, 85, 86, 87] (by decide +kernel) (by decide +kernel)
set_option maxRecDepth 20000 in
theorem gX5_send_X3_areThere : GoodIn wsX5_send (wsV RX5 73 RX3 yX3_areThere wsX3_areThere) := goodIn_app (goodIn_of _ (by decide +kernel)) ggX5_send_X3_areThere
set_option maxRecDepth 20000 in
theorem ggX5_send_X3_isWord : GoodIn wsX5_send wsX3_isWord := goodIn_r _ [11, 12, 13, 14, 5, 15, 7, 79, 80, 81, 82, 83, 84, 85, 86, 87] (by decide +kernel) (by decide +kernel)
set_option maxRecDepth 20000 in
theorem gX5_send_X3_isWord : GoodIn wsX5_send (wsV RX5 98 RX3 yX3_isWord wsX3_isWord) := goodIn_app (goodIn_of _ (by decide +kernel)) ggX5_send_X3_isWord
set_option maxRecDepth 20000 in
theorem ggX5_send_X5_sendAndCount : GoodIn wsX5_send wsX5_sendAndCount := goodIn_r _ [20, 1, 21, 22, 23, 24, 5, 25, 26, 27, 28, 29, 30, 31, 32, 33, 34, 35, 36, 37, 38, 39, 40, 41, 42, 43, 44, 45, 46, 47, 48, 49, 50, 51, 52, 53, 54, 55, 56, 57, 58, 59, 60, 7, 61, 62, 63, 64, 65, 66, 67, 68, 69, 70, 71, 72, 73, 74, 75, 76, 77, 78, 79, 80, 81, 82, 83, 84, 85, 86, 87, 88, 89, 90, 91] (by decide +kernel) (by decide +kernel)
set_option maxRecDepth 20000 in
theorem gX5_send_X5_sendAndCount : GoodIn wsX5_send (wsV RX5 123 RX5 yX5_sendAndCount wsX5_sendAndCount) := goodIn_app (goodIn_of _ (by decide +kernel)) ggX5_send_X5_sendAndCount
theorem dX5_send_0 : decode cX5_send 0 = .ok (.aload_n 0, 1) := by decide +kernel
theorem dX5_send_1 : decode cX5_send 1 = .ok (.getfield 26, 3) := by decide +kernel
theorem dX5_send_4 : decode cX5_send 4 = .ok (.invokevirtual 73, 3) := by decide +kernel
theorem dX5_send_7 : decode cX5_send 7 = .ok (.ifCond .ne 7, 3) := by decide +kernel
theorem dX5_send_10 : decode cX5_send 10 = .ok (.sipush (-1003), 3) := by decide +kernel
theorem dX5_send_13 : decode cX5_send 13 = .ok (.ireturn, 1) := by decide +kernel
theorem dX5_send_14 : decode cX5_send 14 = .ok (.aload_n 0, 1) := by decide +kernel
theorem dX5_send_15 : decode cX5_send 15 = .ok (.getfield 26, 3) := by decide +kernel
theorem dX5_send_18 : decode cX5_send 18 = .ok (.iload_n 1, 1) := by decide +kernel
theorem dX5_send_19 : decode cX5_send 19 = .ok (.invokevirtual 98, 3) := by decide +kernel
theorem dX5_send_22 : decode cX5_send 22 = .ok (.ifCond .eq 14, 3) := by decide +kernel
theorem dX5_send_25 : decode cX5_send 25 = .ok (.aload_n 0, 1) := by decide +kernel
theorem dX5_send_26 : decode cX5_send 26 = .ok (.getfield 26, 3) := by decide +kernel
theorem dX5_send_29 : decode cX5_send 29 = .ok (.iload_n 2, 1) := by decide +kernel
theorem dX5_send_30 : decode cX5_send 30 = .ok (.invokevirtual 98, 3) := by decide +kernel
theorem dX5_send_33 : decode cX5_send 33 = .ok (.ifCond .ne 7, 3) := by decide +kernel
theorem dX5_send_36 : decode cX5_send 36 = .ok (.sipush (-1002), 3) := by decide +kernel
theorem dX5_send_39 : decode cX5_send 39 = .ok (.ireturn, 1) := by decide +kernel
theorem dX5_send_40 : decode cX5_send 40 = .ok (.aload_n 0, 1) := by decide +kernel
theorem dX5_send_41 : decode cX5_send 41 = .ok (.iload_n 1, 1) := by decide +kernel
theorem dX5_send_42 : decode cX5_send 42 = .ok (.iload_n 2, 1) := by decide +kernel
theorem dX5_send_43 : decode cX5_send 43 = .ok (.invokevirtual 123, 3) := by decide +kernel
theorem dX5_send_46 : decode cX5_send 46 = .ok (.ireturn, 1) := by decide +kernel
set_option maxRecDepth 20000 in
theorem ggX5_plain_X3_areThere : GoodIn wsX5_plain wsX3_areThere := goodIn_r _ [6, 7, 57, 58, 59, 60, 61, 62, 63, 64, 65] (by decide +kernel) (by decide +kernel)
set_option maxRecDepth 20000 in
theorem gX5_plain_X3_areThere : GoodIn wsX5_plain (wsV RX5 73 RX3 yX3_areThere wsX3_areThere) := goodIn_app (goodIn_of _ (by decide +kernel)) ggX5_plain_X3_areThere
set_option maxRecDepth 20000 in
theorem ggX5_plain_X3_isWord : GoodIn wsX5_plain wsX3_isWord := goodIn_r _ [11, 12, 13, 14, 5, 15, 7, 57, 58, 59, 60, 61, 62, 63, 64, 65] (by decide +kernel) (by decide +kernel)
set_option maxRecDepth 20000 in
theorem gX5_plain_X3_isWord : GoodIn wsX5_plain (wsV RX5 98 RX3 yX3_isWord wsX3_isWord) := goodIn_app (goodIn_of _ (by decide +kernel)) ggX5_plain_X3_isWord
set_option maxRecDepth 20000 in
theorem ggX5_plain_X3_verdictOf : GoodIn wsX5_plain wsX3_verdictOf := goodIn_r _ [19, 20, 21, 22, 23, 5, 24, 25, 26, 27, 28, 29, 30, 31, 32, 33, 34, 35, 36, 37, 38, 39, 40, 41, 42, 43, 44, 45, 46, 47, 48, 49, 50, 57, 58, 59, 60, 61, 62, 63, 64, 65] (by decide +kernel) (by decide +kernel)
set_option maxRecDepth 20000 in
theorem gX5_plain_X3_verdictOf : GoodIn wsX5_plain (wsV RX5 126 RX3 yX3_verdictOf wsX3_verdictOf) := goodIn_app (goodIn_of _ (by decide +kernel)) ggX5_plain_X3_verdictOf
set_option maxRecDepth 20000 in
theorem ggX5_plain_X3_flipsOf : GoodIn wsX5_plain wsX3_flipsOf := goodIn_r _ [24, 25, 26, 27, 5, 28, 29, 30, 31, 32, 33, 34, 35, 36, 37, 38, 39, 40, 41, 42, 43, 44, 45, 46, 47, 48, 49, 50, 57, 58, 59, 60, 61, 62, 63, 64, 65] (by decide +kernel) (by decide +kernel)
set_option maxRecDepth 20000 in
theorem gX5_plain_X3_flipsOf : GoodIn wsX5_plain (wsV RX5 129 RX3 yX3_flipsOf wsX3_flipsOf) := goodIn_app (goodIn_of _ (by decide +kernel)) ggX5_plain_X3_flipsOf
theorem dX5_plain_0 : decode cX5_plain 0 = .ok (.aload_n 0, 1) := by decide +kernel
theorem dX5_plain_1 : decode cX5_plain 1 = .ok (.getfield 26, 3) := by decide +kernel
theorem dX5_plain_4 : decode cX5_plain 4 = .ok (.invokevirtual 73, 3) := by decide +kernel
theorem dX5_plain_7 : decode cX5_plain 7 = .ok (.ifCond .ne 7, 3) := by decide +kernel
theorem dX5_plain_10 : decode cX5_plain 10 = .ok (.sipush (-1003), 3) := by decide +kernel
theorem dX5_plain_13 : decode cX5_plain 13 = .ok (.ireturn, 1) := by decide +kernel
theorem dX5_plain_14 : decode cX5_plain 14 = .ok (.aload_n 0, 1) := by decide +kernel
theorem dX5_plain_15 : decode cX5_plain 15 = .ok (.getfield 26, 3) := by decide +kernel
theorem dX5_plain_18 : decode cX5_plain 18 = .ok (.iload_n 1, 1) := by decide +kernel
theorem dX5_plain_19 : decode cX5_plain 19 = .ok (.invokevirtual 98, 3) := by decide +kernel
theorem dX5_plain_22 : decode cX5_plain 22 = .ok (.ifCond .eq 23, 3) := by decide +kernel
theorem dX5_plain_25 : decode cX5_plain 25 = .ok (.aload_n 0, 1) := by decide +kernel
theorem dX5_plain_26 : decode cX5_plain 26 = .ok (.getfield 26, 3) := by decide +kernel
theorem dX5_plain_29 : decode cX5_plain 29 = .ok (.iload_n 2, 1) := by decide +kernel
theorem dX5_plain_30 : decode cX5_plain 30 = .ok (.invokevirtual 98, 3) := by decide +kernel
theorem dX5_plain_33 : decode cX5_plain 33 = .ok (.ifCond .eq 12, 3) := by decide +kernel
theorem dX5_plain_36 : decode cX5_plain 36 = .ok (.iload_n 3, 1) := by decide +kernel
theorem dX5_plain_37 : decode cX5_plain 37 = .ok (.ifCond .lt 8, 3) := by decide +kernel
theorem dX5_plain_40 : decode cX5_plain 40 = .ok (.iload_n 3, 1) := by decide +kernel
theorem dX5_plain_41 : decode cX5_plain 41 = .ok (.iconst 2, 1) := by decide +kernel
theorem dX5_plain_42 : decode cX5_plain 42 = .ok (.if_icmp .le 7, 3) := by decide +kernel
theorem dX5_plain_45 : decode cX5_plain 45 = .ok (.sipush (-1002), 3) := by decide +kernel
theorem dX5_plain_48 : decode cX5_plain 48 = .ok (.ireturn, 1) := by decide +kernel
theorem dX5_plain_49 : decode cX5_plain 49 = .ok (.iload_n 3, 1) := by decide +kernel
theorem dX5_plain_50 : decode cX5_plain 50 = .ok (.lookupswitch 46 #[(0, 26), (1, 36)], 26) := by decide +kernel
theorem dX5_plain_76 : decode cX5_plain 76 = .ok (.aload_n 0, 1) := by decide +kernel
theorem dX5_plain_77 : decode cX5_plain 77 = .ok (.getfield 26, 3) := by decide +kernel
theorem dX5_plain_80 : decode cX5_plain 80 = .ok (.iload_n 1, 1) := by decide +kernel
theorem dX5_plain_81 : decode cX5_plain 81 = .ok (.iload_n 2, 1) := by decide +kernel
theorem dX5_plain_82 : decode cX5_plain 82 = .ok (.invokevirtual 126, 3) := by decide +kernel
theorem dX5_plain_85 : decode cX5_plain 85 = .ok (.ireturn, 1) := by decide +kernel
theorem dX5_plain_86 : decode cX5_plain 86 = .ok (.aload_n 0, 1) := by decide +kernel
theorem dX5_plain_87 : decode cX5_plain 87 = .ok (.getfield 26, 3) := by decide +kernel
theorem dX5_plain_90 : decode cX5_plain 90 = .ok (.iload_n 1, 1) := by decide +kernel
theorem dX5_plain_91 : decode cX5_plain 91 = .ok (.iload_n 2, 1) := by decide +kernel
theorem dX5_plain_92 : decode cX5_plain 92 = .ok (.invokevirtual 129, 3) := by decide +kernel
theorem dX5_plain_95 : decode cX5_plain 95 = .ok (.ireturn, 1) := by decide +kernel
theorem dX5_plain_96 : decode cX5_plain 96 = .ok (.iload_n 1, 1) := by decide +kernel
theorem dX5_plain_97 : decode cX5_plain 97 = .ok (.aload_n 0, 1) := by decide +kernel
theorem dX5_plain_98 : decode cX5_plain 98 = .ok (.getfield 26, 3) := by decide +kernel
theorem dX5_plain_101 : decode cX5_plain 101 = .ok (.iload_n 1, 1) := by decide +kernel
theorem dX5_plain_102 : decode cX5_plain 102 = .ok (.iload_n 2, 1) := by decide +kernel
theorem dX5_plain_103 : decode cX5_plain 103 = .ok (.invokevirtual 129, 3) := by decide +kernel
theorem dX5_plain_106 : decode cX5_plain 106 = .ok (.ixor, 1) := by decide +kernel
theorem dX5_plain_107 : decode cX5_plain 107 = .ok (.ireturn, 1) := by decide +kernel
set_option maxRecDepth 20000 in
theorem ggX5_share_X3_areThere : GoodIn wsX5_share wsX3_areThere := goodIn_r _ [6, 7, 48, 49, 50, 51, 52, 53, 54, 55, 56] (by decide +kernel) (by decide +kernel)
set_option maxRecDepth 20000 in
theorem gX5_share_X3_areThere : GoodIn wsX5_share (wsV RX5 73 RX3 yX3_areThere wsX3_areThere) := goodIn_app (goodIn_of _ (by decide +kernel)) ggX5_share_X3_areThere
set_option maxRecDepth 20000 in
theorem ggX5_share_X3_areSharedSets : GoodIn wsX5_share wsX3_areSharedSets := goodIn_r _ [11, 12, 13, 14, 5, 15, 16, 17, 18, 19, 7, 48, 49, 50, 51, 52, 53, 54, 55, 56] (by decide +kernel) (by decide +kernel)
set_option maxRecDepth 20000 in
theorem gX5_share_X3_areSharedSets : GoodIn wsX5_share (wsV RX5 132 RX3 yX3_areSharedSets wsX3_areSharedSets) := goodIn_app (goodIn_of _ (by decide +kernel)) ggX5_share_X3_areSharedSets
set_option maxRecDepth 20000 in
theorem ggX5_share_X3_isEnough : GoodIn wsX5_share wsX3_isEnough := goodIn_r _ [23, 16, 17, 18, 5, 19, 7, 24, 25, 26, 27, 28, 29, 30, 31, 32, 33, 34, 35, 36, 48, 49, 50, 51, 52, 53, 54, 55, 56] (by decide +kernel) (by decide +kernel)
set_option maxRecDepth 20000 in
theorem gX5_share_X3_isEnough : GoodIn wsX5_share (wsV RX5 136 RX3 yX3_isEnough wsX3_isEnough) := goodIn_app (goodIn_of _ (by decide +kernel)) ggX5_share_X3_isEnough
set_option maxRecDepth 20000 in
theorem ggX5_share_X3_rank : GoodIn wsX5_share wsX3_rank := goodIn_r _ [40, 41, 48, 49, 50, 51, 52, 53, 54, 55, 56] (by decide +kernel) (by decide +kernel)
set_option maxRecDepth 20000 in
theorem gX5_share_X3_rank : GoodIn wsX5_share (wsV RX5 79 RX3 yX3_rank wsX3_rank) := goodIn_app (goodIn_of _ (by decide +kernel)) ggX5_share_X3_rank
set_option maxRecDepth 20000 in
theorem ggX5_share_J6_bitCount_0f7a4 : GoodIn wsX5_share wsJ6_bitCount_0f7a4 := goodIn_r _ [33, 34, 35, 36] (by decide +kernel) (by decide +kernel)
set_option maxRecDepth 20000 in
theorem gX5_share_J6_bitCount_0f7a4 : GoodIn wsX5_share (va_wsS RX5 139 yJ6_bitCount_0f7a4 wsJ6_bitCount_0f7a4) := goodIn_app (goodIn_of _ (by decide +kernel)) ggX5_share_J6_bitCount_0f7a4
theorem dX5_share_0 : decode cX5_share 0 = .ok (.aload_n 0, 1) := by decide +kernel
theorem dX5_share_1 : decode cX5_share 1 = .ok (.getfield 26, 3) := by decide +kernel
theorem dX5_share_4 : decode cX5_share 4 = .ok (.invokevirtual 73, 3) := by decide +kernel
theorem dX5_share_7 : decode cX5_share 7 = .ok (.ifCond .ne 7, 3) := by decide +kernel
theorem dX5_share_10 : decode cX5_share 10 = .ok (.sipush (-1003), 3) := by decide +kernel
theorem dX5_share_13 : decode cX5_share 13 = .ok (.ireturn, 1) := by decide +kernel
theorem dX5_share_14 : decode cX5_share 14 = .ok (.aload_n 0, 1) := by decide +kernel
theorem dX5_share_15 : decode cX5_share 15 = .ok (.getfield 26, 3) := by decide +kernel
theorem dX5_share_18 : decode cX5_share 18 = .ok (.iload_n 1, 1) := by decide +kernel
theorem dX5_share_19 : decode cX5_share 19 = .ok (.iload_n 2, 1) := by decide +kernel
theorem dX5_share_20 : decode cX5_share 20 = .ok (.invokevirtual 132, 3) := by decide +kernel
theorem dX5_share_23 : decode cX5_share 23 = .ok (.ifCond .eq 12, 3) := by decide +kernel
theorem dX5_share_26 : decode cX5_share 26 = .ok (.iload_n 3, 1) := by decide +kernel
theorem dX5_share_27 : decode cX5_share 27 = .ok (.ifCond .lt 8, 3) := by decide +kernel
theorem dX5_share_30 : decode cX5_share 30 = .ok (.iload_n 3, 1) := by decide +kernel
theorem dX5_share_31 : decode cX5_share 31 = .ok (.iconst 1, 1) := by decide +kernel
theorem dX5_share_32 : decode cX5_share 32 = .ok (.if_icmp .le 7, 3) := by decide +kernel
theorem dX5_share_35 : decode cX5_share 35 = .ok (.sipush (-1002), 3) := by decide +kernel
theorem dX5_share_38 : decode cX5_share 38 = .ok (.ireturn, 1) := by decide +kernel
theorem dX5_share_39 : decode cX5_share 39 = .ok (.iload_n 1, 1) := by decide +kernel
theorem dX5_share_40 : decode cX5_share 40 = .ok (.iload_n 2, 1) := by decide +kernel
theorem dX5_share_41 : decode cX5_share 41 = .ok (.ior, 1) := by decide +kernel
theorem dX5_share_42 : decode cX5_share 42 = .ok (.istore 4, 2) := by decide +kernel
theorem dX5_share_44 : decode cX5_share 44 = .ok (.iload_n 3, 1) := by decide +kernel
theorem dX5_share_45 : decode cX5_share 45 = .ok (.ifCond .ne 21, 3) := by decide +kernel
theorem dX5_share_48 : decode cX5_share 48 = .ok (.aload_n 0, 1) := by decide +kernel
theorem dX5_share_49 : decode cX5_share 49 = .ok (.getfield 26, 3) := by decide +kernel
theorem dX5_share_52 : decode cX5_share 52 = .ok (.iload 4, 2) := by decide +kernel
theorem dX5_share_54 : decode cX5_share 54 = .ok (.invokevirtual 136, 3) := by decide +kernel
theorem dX5_share_57 : decode cX5_share 57 = .ok (.ifCond .eq 7, 3) := by decide +kernel
theorem dX5_share_60 : decode cX5_share 60 = .ok (.iconst 1, 1) := by decide +kernel
theorem dX5_share_61 : decode cX5_share 61 = .ok (.goto 4, 3) := by decide +kernel
theorem dX5_share_64 : decode cX5_share 64 = .ok (.iconst 0, 1) := by decide +kernel
theorem dX5_share_65 : decode cX5_share 65 = .ok (.ireturn, 1) := by decide +kernel
theorem dX5_share_66 : decode cX5_share 66 = .ok (.iconst 2, 1) := by decide +kernel
theorem dX5_share_67 : decode cX5_share 67 = .ok (.aload_n 0, 1) := by decide +kernel
theorem dX5_share_68 : decode cX5_share 68 = .ok (.getfield 26, 3) := by decide +kernel
theorem dX5_share_71 : decode cX5_share 71 = .ok (.invokevirtual 79, 3) := by decide +kernel
theorem dX5_share_74 : decode cX5_share 74 = .ok (.imul, 1) := by decide +kernel
theorem dX5_share_75 : decode cX5_share 75 = .ok (.iload 4, 2) := by decide +kernel
theorem dX5_share_77 : decode cX5_share 77 = .ok (.invokestatic 139, 3) := by decide +kernel
theorem dX5_share_80 : decode cX5_share 80 = .ok (.iadd, 1) := by decide +kernel
theorem dX5_share_81 : decode cX5_share 81 = .ok (.ireturn, 1) := by decide +kernel
set_option maxRecDepth 20000 in
theorem ggX5_shared_X3_areThere : GoodIn wsX5_shared wsX3_areThere := goodIn_r _ [6, 7, 65, 66, 67, 68, 69, 70, 71, 72, 73] (by decide +kernel) (by decide +kernel)
set_option maxRecDepth 20000 in
theorem gX5_shared_X3_areThere : GoodIn wsX5_shared (wsV RX5 73 RX3 yX3_areThere wsX3_areThere) := goodIn_app (goodIn_of _ (by decide +kernel)) ggX5_shared_X3_areThere
set_option maxRecDepth 20000 in
theorem ggX5_shared_X3_areSharedSets : GoodIn wsX5_shared wsX3_areSharedSets := goodIn_r _ [11, 12, 13, 14, 5, 15, 16, 17, 18, 19, 7, 65, 66, 67, 68, 69, 70, 71, 72, 73] (by decide +kernel) (by decide +kernel)
set_option maxRecDepth 20000 in
theorem gX5_shared_X3_areSharedSets : GoodIn wsX5_shared (wsV RX5 132 RX3 yX3_areSharedSets wsX3_areSharedSets) := goodIn_app (goodIn_of _ (by decide +kernel)) ggX5_shared_X3_areSharedSets
set_option maxRecDepth 20000 in
theorem ggX5_shared_X3_isWord : GoodIn wsX5_shared wsX3_isWord := goodIn_r _ [15, 16, 17, 18, 5, 19, 7, 65, 66, 67, 68, 69, 70, 71, 72, 73] (by decide +kernel) (by decide +kernel)
set_option maxRecDepth 20000 in
theorem gX5_shared_X3_isWord : GoodIn wsX5_shared (wsV RX5 98 RX3 yX3_isWord wsX3_isWord) := goodIn_app (goodIn_of _ (by decide +kernel)) ggX5_shared_X3_isWord
set_option maxRecDepth 20000 in
theorem ggX5_shared_X3_firstOfShared : GoodIn wsX5_shared wsX3_firstOfShared := goodIn_r _ [24, 25, 26, 27, 5, 28, 16, 17, 18, 19, 7, 29, 30, 31, 32, 33, 34, 35, 36, 37, 38, 39, 40, 41, 42, 43, 44, 45, 46, 47, 48, 49, 50, 51, 52, 53, 54, 55, 56, 57, 58, 65, 66, 67, 68, 69, 70, 71, 72, 73] (by decide +kernel) (by decide +kernel)
set_option maxRecDepth 20000 in
theorem gX5_shared_X3_firstOfShared : GoodIn wsX5_shared (wsV RX5 144 RX3 yX3_firstOfShared wsX3_firstOfShared) := goodIn_app (goodIn_of _ (by decide +kernel)) ggX5_shared_X3_firstOfShared
set_option maxRecDepth 20000 in
theorem ggX5_shared_X3_flipsOf : GoodIn wsX5_shared wsX3_flipsOf := goodIn_r _ [45, 29, 30, 31, 5, 32, 33, 34, 35, 36, 37, 38, 39, 40, 41, 46, 47, 48, 49, 50, 51, 52, 53, 54, 55, 56, 57, 58, 65, 66, 67, 68, 69, 70, 71, 72, 73] (by decide +kernel) (by decide +kernel)
set_option maxRecDepth 20000 in
theorem gX5_shared_X3_flipsOf : GoodIn wsX5_shared (wsV RX5 129 RX3 yX3_flipsOf wsX3_flipsOf) := goodIn_app (goodIn_of _ (by decide +kernel)) ggX5_shared_X3_flipsOf
theorem dX5_shared_0 : decode cX5_shared 0 = .ok (.aload_n 0, 1) := by decide +kernel
theorem dX5_shared_1 : decode cX5_shared 1 = .ok (.getfield 26, 3) := by decide +kernel
theorem dX5_shared_4 : decode cX5_shared 4 = .ok (.invokevirtual 73, 3) := by decide +kernel
theorem dX5_shared_7 : decode cX5_shared 7 = .ok (.ifCond .ne 7, 3) := by decide +kernel
theorem dX5_shared_10 : decode cX5_shared 10 = .ok (.sipush (-1003), 3) := by decide +kernel
theorem dX5_shared_13 : decode cX5_shared 13 = .ok (.ireturn, 1) := by decide +kernel
theorem dX5_shared_14 : decode cX5_shared 14 = .ok (.aload_n 0, 1) := by decide +kernel
theorem dX5_shared_15 : decode cX5_shared 15 = .ok (.getfield 26, 3) := by decide +kernel
theorem dX5_shared_18 : decode cX5_shared 18 = .ok (.iload_n 1, 1) := by decide +kernel
theorem dX5_shared_19 : decode cX5_shared 19 = .ok (.iload_n 2, 1) := by decide +kernel
theorem dX5_shared_20 : decode cX5_shared 20 = .ok (.invokevirtual 132, 3) := by decide +kernel
theorem dX5_shared_23 : decode cX5_shared 23 = .ok (.ifCond .eq 26, 3) := by decide +kernel
theorem dX5_shared_26 : decode cX5_shared 26 = .ok (.aload_n 0, 1) := by decide +kernel
theorem dX5_shared_27 : decode cX5_shared 27 = .ok (.getfield 26, 3) := by decide +kernel
theorem dX5_shared_30 : decode cX5_shared 30 = .ok (.iload_n 3, 1) := by decide +kernel
theorem dX5_shared_31 : decode cX5_shared 31 = .ok (.invokevirtual 98, 3) := by decide +kernel
theorem dX5_shared_34 : decode cX5_shared 34 = .ok (.ifCond .eq 15, 3) := by decide +kernel
theorem dX5_shared_37 : decode cX5_shared 37 = .ok (.aload_n 0, 1) := by decide +kernel
theorem dX5_shared_38 : decode cX5_shared 38 = .ok (.getfield 26, 3) := by decide +kernel
theorem dX5_shared_41 : decode cX5_shared 41 = .ok (.iload 4, 2) := by decide +kernel
theorem dX5_shared_43 : decode cX5_shared 43 = .ok (.invokevirtual 98, 3) := by decide +kernel
theorem dX5_shared_46 : decode cX5_shared 46 = .ok (.ifCond .ne 7, 3) := by decide +kernel
theorem dX5_shared_49 : decode cX5_shared 49 = .ok (.sipush (-1002), 3) := by decide +kernel
theorem dX5_shared_52 : decode cX5_shared 52 = .ok (.ireturn, 1) := by decide +kernel
theorem dX5_shared_53 : decode cX5_shared 53 = .ok (.aload_n 0, 1) := by decide +kernel
theorem dX5_shared_54 : decode cX5_shared 54 = .ok (.getfield 26, 3) := by decide +kernel
theorem dX5_shared_57 : decode cX5_shared 57 = .ok (.iload_n 1, 1) := by decide +kernel
theorem dX5_shared_58 : decode cX5_shared 58 = .ok (.iload_n 2, 1) := by decide +kernel
theorem dX5_shared_59 : decode cX5_shared 59 = .ok (.iload_n 3, 1) := by decide +kernel
theorem dX5_shared_60 : decode cX5_shared 60 = .ok (.iload 4, 2) := by decide +kernel
theorem dX5_shared_62 : decode cX5_shared 62 = .ok (.invokevirtual 144, 3) := by decide +kernel
theorem dX5_shared_65 : decode cX5_shared 65 = .ok (.istore 6, 2) := by decide +kernel
theorem dX5_shared_67 : decode cX5_shared 67 = .ok (.iload 6, 2) := by decide +kernel
theorem dX5_shared_69 : decode cX5_shared 69 = .ok (.sipush (-1001), 3) := by decide +kernel
theorem dX5_shared_72 : decode cX5_shared 72 = .ok (.if_icmp .eq 8, 3) := by decide +kernel
theorem dX5_shared_75 : decode cX5_shared 75 = .ok (.iload 5, 2) := by decide +kernel
theorem dX5_shared_77 : decode cX5_shared 77 = .ok (.ifCond .ne 6, 3) := by decide +kernel
theorem dX5_shared_80 : decode cX5_shared 80 = .ok (.iload 6, 2) := by decide +kernel
theorem dX5_shared_82 : decode cX5_shared 82 = .ok (.ireturn, 1) := by decide +kernel
theorem dX5_shared_83 : decode cX5_shared 83 = .ok (.iload 6, 2) := by decide +kernel
theorem dX5_shared_85 : decode cX5_shared 85 = .ok (.aload_n 0, 1) := by decide +kernel
theorem dX5_shared_86 : decode cX5_shared 86 = .ok (.getfield 26, 3) := by decide +kernel
theorem dX5_shared_89 : decode cX5_shared 89 = .ok (.iload_n 3, 1) := by decide +kernel
theorem dX5_shared_90 : decode cX5_shared 90 = .ok (.iload 4, 2) := by decide +kernel
theorem dX5_shared_92 : decode cX5_shared 92 = .ok (.invokevirtual 129, 3) := by decide +kernel
theorem dX5_shared_95 : decode cX5_shared 95 = .ok (.ixor, 1) := by decide +kernel
theorem dX5_shared_96 : decode cX5_shared 96 = .ok (.ireturn, 1) := by decide +kernel
set_option maxRecDepth 20000 in
theorem ggX5_run_X3_areThere : GoodIn wsX5_run wsX3_areThere := goodIn_r _ [7, 8, 89, 90, 91, 92, 93, 94, 95, 96, 97] (by decide +kernel) (by decide +kernel)
set_option maxRecDepth 20000 in
theorem gX5_run_X3_areThere : GoodIn wsX5_run (wsV RX5 73 RX3 yX3_areThere wsX3_areThere) := goodIn_app (goodIn_of _ (by decide +kernel)) ggX5_run_X3_areThere
set_option maxRecDepth 20000 in
theorem ggX5_run_X0_startFrom : GoodIn wsX5_run wsX0_startFrom := goodIn_r _ [13, 14, 98] (by decide +kernel) (by decide +kernel)
set_option maxRecDepth 20000 in
theorem gX5_run_X0_startFrom : GoodIn wsX5_run (wsV RX5 148 RX0 yX0_startFrom wsX0_startFrom) := goodIn_app (goodIn_of _ (by decide +kernel)) ggX5_run_X0_startFrom
set_option maxRecDepth 20000 in
theorem ggX5_run_X3_length : GoodIn wsX5_run wsX3_length := goodIn_r _ [18, 8, 89, 90, 91, 92, 93, 94, 95, 96, 97] (by decide +kernel) (by decide +kernel)
set_option maxRecDepth 20000 in
theorem gX5_run_X3_length : GoodIn wsX5_run (wsV RX5 70 RX3 yX3_length wsX3_length) := goodIn_app (goodIn_of _ (by decide +kernel)) ggX5_run_X3_length
set_option maxRecDepth 20000 in
theorem ggX5_run_X0_next : GoodIn wsX5_run wsX0_next := goodIn_r _ [22, 23, 14, 24, 25, 98] (by decide +kernel) (by decide +kernel)
set_option maxRecDepth 20000 in
theorem gX5_run_X0_next : GoodIn wsX5_run (wsV RX5 152 RX0 yX0_next wsX0_next) := goodIn_app (goodIn_of _ (by decide +kernel)) ggX5_run_X0_next
set_option maxRecDepth 20000 in
theorem ggX5_run_X5_drawUnlikePlaces : GoodIn wsX5_run wsX5_drawUnlikePlaces := goodIn_r _ [30, 1, 2, 15, 16, 17, 6, 18, 8, 19, 20, 21, 12, 22, 23, 14, 24, 25, 84, 85, 86, 87, 88, 89, 90, 91, 92, 93, 94, 95, 96, 97, 98] (by decide +kernel) (by decide +kernel)
set_option maxRecDepth 20000 in
theorem gX5_run_X5_drawUnlikePlaces : GoodIn wsX5_run (wsV RX5 155 RX5 yX5_drawUnlikePlaces wsX5_drawUnlikePlaces) := goodIn_app (goodIn_of _ (by decide +kernel)) ggX5_run_X5_drawUnlikePlaces
set_option maxRecDepth 20000 in
theorem ggX5_run_X5_sendAndCount : GoodIn wsX5_run wsX5_sendAndCount := goodIn_r _ [34, 1, 35, 36, 37, 38, 6, 39, 40, 41, 42, 43, 44, 45, 46, 47, 48, 49, 50, 51, 52, 53, 54, 55, 56, 57, 58, 59, 60, 61, 62, 63, 64, 65, 66, 67, 68, 69, 70, 15, 16, 17, 18, 8, 71, 72, 73, 74, 75, 76, 77, 78, 79, 80, 81, 82, 83, 84, 85, 86, 87, 88, 89, 90, 91, 92, 93, 94, 95, 96, 97, 99, 100, 101, 102] (by decide +kernel) (by decide +kernel)
set_option maxRecDepth 20000 in
theorem gX5_run_X5_sendAndCount : GoodIn wsX5_run (wsV RX5 123 RX5 yX5_sendAndCount wsX5_sendAndCount) := goodIn_app (goodIn_of _ (by decide +kernel)) ggX5_run_X5_sendAndCount
theorem dX5_run_0 : decode cX5_run 0 = .ok (.aload_n 0, 1) := by decide +kernel
theorem dX5_run_1 : decode cX5_run 1 = .ok (.getfield 26, 3) := by decide +kernel
theorem dX5_run_4 : decode cX5_run 4 = .ok (.invokevirtual 73, 3) := by decide +kernel
theorem dX5_run_7 : decode cX5_run 7 = .ok (.ifCond .ne 7, 3) := by decide +kernel
theorem dX5_run_10 : decode cX5_run 10 = .ok (.sipush (-1003), 3) := by decide +kernel
theorem dX5_run_13 : decode cX5_run 13 = .ok (.ireturn, 1) := by decide +kernel
theorem dX5_run_14 : decode cX5_run 14 = .ok (.iload_n 1, 1) := by decide +kernel
theorem dX5_run_15 : decode cX5_run 15 = .ok (.ifCond .lt 24, 3) := by decide +kernel
theorem dX5_run_18 : decode cX5_run 18 = .ok (.iload_n 2, 1) := by decide +kernel
theorem dX5_run_19 : decode cX5_run 19 = .ok (.iconst 1, 1) := by decide +kernel
theorem dX5_run_20 : decode cX5_run 20 = .ok (.if_icmp .lt 19, 3) := by decide +kernel
theorem dX5_run_23 : decode cX5_run 23 = .ok (.iload_n 2, 1) := by decide +kernel
theorem dX5_run_24 : decode cX5_run 24 = .ok (.bipush 50, 2) := by decide +kernel
theorem dX5_run_26 : decode cX5_run 26 = .ok (.if_icmp .gt 13, 3) := by decide +kernel
theorem dX5_run_29 : decode cX5_run 29 = .ok (.iload_n 3, 1) := by decide +kernel
theorem dX5_run_30 : decode cX5_run 30 = .ok (.ifCond .lt 9, 3) := by decide +kernel
theorem dX5_run_33 : decode cX5_run 33 = .ok (.iload_n 3, 1) := by decide +kernel
theorem dX5_run_34 : decode cX5_run 34 = .ok (.bipush 16, 2) := by decide +kernel
theorem dX5_run_36 : decode cX5_run 36 = .ok (.if_icmp .le 7, 3) := by decide +kernel
theorem dX5_run_39 : decode cX5_run 39 = .ok (.sipush (-1002), 3) := by decide +kernel
theorem dX5_run_42 : decode cX5_run 42 = .ok (.ireturn, 1) := by decide +kernel
theorem dX5_run_43 : decode cX5_run 43 = .ok (.aload_n 0, 1) := by decide +kernel
theorem dX5_run_44 : decode cX5_run 44 = .ok (.getfield 40, 3) := by decide +kernel
theorem dX5_run_47 : decode cX5_run 47 = .ok (.iload_n 1, 1) := by decide +kernel
theorem dX5_run_48 : decode cX5_run 48 = .ok (.invokevirtual 148, 3) := by decide +kernel
theorem dX5_run_51 : decode cX5_run 51 = .ok (.iconst 0, 1) := by decide +kernel
theorem dX5_run_52 : decode cX5_run 52 = .ok (.istore 4, 2) := by decide +kernel
theorem dX5_run_54 : decode cX5_run 54 = .ok (.iconst 0, 1) := by decide +kernel
theorem dX5_run_55 : decode cX5_run 55 = .ok (.istore 5, 2) := by decide +kernel
theorem dX5_run_57 : decode cX5_run 57 = .ok (.iload 5, 2) := by decide +kernel
theorem dX5_run_59 : decode cX5_run 59 = .ok (.iload_n 2, 1) := by decide +kernel
theorem dX5_run_60 : decode cX5_run 60 = .ok (.if_icmp .ge 50, 3) := by decide +kernel
theorem dX5_run_63 : decode cX5_run 63 = .ok (.aload_n 0, 1) := by decide +kernel
theorem dX5_run_64 : decode cX5_run 64 = .ok (.getfield 40, 3) := by decide +kernel
theorem dX5_run_67 : decode cX5_run 67 = .ok (.aload_n 0, 1) := by decide +kernel
theorem dX5_run_68 : decode cX5_run 68 = .ok (.getfield 26, 3) := by decide +kernel
theorem dX5_run_71 : decode cX5_run 71 = .ok (.invokevirtual 70, 3) := by decide +kernel
theorem dX5_run_74 : decode cX5_run 74 = .ok (.invokevirtual 152, 3) := by decide +kernel
theorem dX5_run_77 : decode cX5_run 77 = .ok (.istore 6, 2) := by decide +kernel
theorem dX5_run_79 : decode cX5_run 79 = .ok (.iload 6, 2) := by decide +kernel
theorem dX5_run_81 : decode cX5_run 81 = .ok (.aload_n 0, 1) := by decide +kernel
theorem dX5_run_82 : decode cX5_run 82 = .ok (.iload_n 3, 1) := by decide +kernel
theorem dX5_run_83 : decode cX5_run 83 = .ok (.invokevirtual 155, 3) := by decide +kernel
theorem dX5_run_86 : decode cX5_run 86 = .ok (.ixor, 1) := by decide +kernel
theorem dX5_run_87 : decode cX5_run 87 = .ok (.istore 7, 2) := by decide +kernel
theorem dX5_run_89 : decode cX5_run 89 = .ok (.aload_n 0, 1) := by decide +kernel
theorem dX5_run_90 : decode cX5_run 90 = .ok (.iload 6, 2) := by decide +kernel
theorem dX5_run_92 : decode cX5_run 92 = .ok (.iload 7, 2) := by decide +kernel
theorem dX5_run_94 : decode cX5_run 94 = .ok (.invokevirtual 123, 3) := by decide +kernel
theorem dX5_run_97 : decode cX5_run 97 = .ok (.iconst 3, 1) := by decide +kernel
theorem dX5_run_98 : decode cX5_run 98 = .ok (.if_icmp .ne 6, 3) := by decide +kernel
theorem dX5_run_101 : decode cX5_run 101 = .ok (.iinc 4 1, 3) := by decide +kernel
theorem dX5_run_104 : decode cX5_run 104 = .ok (.iinc 5 1, 3) := by decide +kernel
theorem dX5_run_107 : decode cX5_run 107 = .ok (.goto (-50), 3) := by decide +kernel
theorem dX5_run_110 : decode cX5_run 110 = .ok (.iload 4, 2) := by decide +kernel
theorem dX5_run_112 : decode cX5_run 112 = .ok (.ireturn, 1) := by decide +kernel
set_option maxRecDepth 20000 in
theorem ggX5_seed_X0_last : GoodIn wsX5_seed wsX0_last := goodIn_r _ [6, 7, 13] (by decide +kernel) (by decide +kernel)
set_option maxRecDepth 20000 in
theorem gX5_seed_X0_last : GoodIn wsX5_seed (wsV RX5 158 RX0 yX0_last wsX0_last) := goodIn_app (goodIn_of _ (by decide +kernel)) ggX5_seed_X0_last
theorem dX5_seed_0 : decode cX5_seed 0 = .ok (.aload_n 0, 1) := by decide +kernel
theorem dX5_seed_1 : decode cX5_seed 1 = .ok (.getfield 40, 3) := by decide +kernel
theorem dX5_seed_4 : decode cX5_seed 4 = .ok (.invokevirtual 158, 3) := by decide +kernel
theorem dX5_seed_7 : decode cX5_seed 7 = .ok (.ireturn, 1) := by decide +kernel
set_option maxRecDepth 20000 in
theorem ggX5_count_X1_size : GoodIn wsX5_count wsX1_size := goodIn_r _ [7, 8, 35, 36] (by decide +kernel) (by decide +kernel)
set_option maxRecDepth 20000 in
theorem gX5_count_X1_size : GoodIn wsX5_count (wsV RX5 48 RX1 yX1_size wsX1_size) := goodIn_app (goodIn_of _ (by decide +kernel)) ggX5_count_X1_size
set_option maxRecDepth 20000 in
theorem ggX5_count_X4_bitsSent : GoodIn wsX5_count wsX4_bitsSent := goodIn_r _ [13, 14, 37, 38, 39, 40] (by decide +kernel) (by decide +kernel)
set_option maxRecDepth 20000 in
theorem gX5_count_X4_bitsSent : GoodIn wsX5_count (wsV RX5 161 RX4 yX4_bitsSent wsX4_bitsSent) := goodIn_app (goodIn_of _ (by decide +kernel)) ggX5_count_X4_bitsSent
set_option maxRecDepth 20000 in
theorem ggX5_count_X4_bitsSentByBothPlainly : GoodIn wsX5_count wsX4_bitsSentByBothPlainly := goodIn_r _ [18, 19, 37, 38, 39, 40] (by decide +kernel) (by decide +kernel)
set_option maxRecDepth 20000 in
theorem gX5_count_X4_bitsSentByBothPlainly : GoodIn wsX5_count (wsV RX5 164 RX4 yX4_bitsSentByBothPlainly wsX4_bitsSentByBothPlainly) := goodIn_app (goodIn_of _ (by decide +kernel)) ggX5_count_X4_bitsSentByBothPlainly
set_option maxRecDepth 20000 in
theorem ggX5_count_X4_timesSumsRead : GoodIn wsX5_count wsX4_timesSumsRead := goodIn_r _ [23, 24, 37, 38, 39, 40] (by decide +kernel) (by decide +kernel)
set_option maxRecDepth 20000 in
theorem gX5_count_X4_timesSumsRead : GoodIn wsX5_count (wsV RX5 167 RX4 yX4_timesSumsRead wsX4_timesSumsRead) := goodIn_app (goodIn_of _ (by decide +kernel)) ggX5_count_X4_timesSumsRead
set_option maxRecDepth 20000 in
theorem ggX5_count_X4_sentWith : GoodIn wsX5_count wsX4_sentWith := goodIn_r _ [28, 29, 37, 38, 39, 40] (by decide +kernel) (by decide +kernel)
set_option maxRecDepth 20000 in
theorem gX5_count_X4_sentWith : GoodIn wsX5_count (wsV RX5 170 RX4 yX4_sentWith wsX4_sentWith) := goodIn_app (goodIn_of _ (by decide +kernel)) ggX5_count_X4_sentWith
theorem dX5_count_0 : decode cX5_count 0 = .ok (.iload_n 1, 1) := by decide +kernel
theorem dX5_count_1 : decode cX5_count 1 = .ok (.ifCond .lt 9, 3) := by decide +kernel
theorem dX5_count_4 : decode cX5_count 4 = .ok (.iload_n 1, 1) := by decide +kernel
theorem dX5_count_5 : decode cX5_count 5 = .ok (.bipush 7, 2) := by decide +kernel
theorem dX5_count_7 : decode cX5_count 7 = .ok (.if_icmp .le 7, 3) := by decide +kernel
theorem dX5_count_10 : decode cX5_count 10 = .ok (.sipush (-1002), 3) := by decide +kernel
theorem dX5_count_13 : decode cX5_count 13 = .ok (.ireturn, 1) := by decide +kernel
theorem dX5_count_14 : decode cX5_count 14 = .ok (.iload_n 1, 1) := by decide +kernel
theorem dX5_count_15 : decode cX5_count 15 = .ok (.tableswitch 77 0 7 #[45, 77, 77, 77, 77, 53, 61, 69], 45) := by decide +kernel
theorem dX5_count_60 : decode cX5_count 60 = .ok (.aload_n 0, 1) := by decide +kernel
theorem dX5_count_61 : decode cX5_count 61 = .ok (.getfield 10, 3) := by decide +kernel
theorem dX5_count_64 : decode cX5_count 64 = .ok (.invokevirtual 48, 3) := by decide +kernel
theorem dX5_count_67 : decode cX5_count 67 = .ok (.ireturn, 1) := by decide +kernel
theorem dX5_count_68 : decode cX5_count 68 = .ok (.aload_n 0, 1) := by decide +kernel
theorem dX5_count_69 : decode cX5_count 69 = .ok (.getfield 33, 3) := by decide +kernel
theorem dX5_count_72 : decode cX5_count 72 = .ok (.invokevirtual 161, 3) := by decide +kernel
theorem dX5_count_75 : decode cX5_count 75 = .ok (.ireturn, 1) := by decide +kernel
theorem dX5_count_76 : decode cX5_count 76 = .ok (.aload_n 0, 1) := by decide +kernel
theorem dX5_count_77 : decode cX5_count 77 = .ok (.getfield 33, 3) := by decide +kernel
theorem dX5_count_80 : decode cX5_count 80 = .ok (.invokevirtual 164, 3) := by decide +kernel
theorem dX5_count_83 : decode cX5_count 83 = .ok (.ireturn, 1) := by decide +kernel
theorem dX5_count_84 : decode cX5_count 84 = .ok (.aload_n 0, 1) := by decide +kernel
theorem dX5_count_85 : decode cX5_count 85 = .ok (.getfield 33, 3) := by decide +kernel
theorem dX5_count_88 : decode cX5_count 88 = .ok (.invokevirtual 167, 3) := by decide +kernel
theorem dX5_count_91 : decode cX5_count 91 = .ok (.ireturn, 1) := by decide +kernel
theorem dX5_count_92 : decode cX5_count 92 = .ok (.aload_n 0, 1) := by decide +kernel
theorem dX5_count_93 : decode cX5_count 93 = .ok (.getfield 33, 3) := by decide +kernel
theorem dX5_count_96 : decode cX5_count 96 = .ok (.iload_n 1, 1) := by decide +kernel
theorem dX5_count_97 : decode cX5_count 97 = .ok (.iconst 1, 1) := by decide +kernel
theorem dX5_count_98 : decode cX5_count 98 = .ok (.isub, 1) := by decide +kernel
theorem dX5_count_99 : decode cX5_count 99 = .ok (.invokevirtual 170, 3) := by decide +kernel
theorem dX5_count_102 : decode cX5_count 102 = .ok (.ireturn, 1) := by decide +kernel
set_option maxRecDepth 20000 in
theorem ggX5_digest_X3_areThere : GoodIn wsX5_digest wsX3_areThere := goodIn_r _ [9, 10, 134, 135, 136, 137, 138, 139, 140, 141, 142] (by decide +kernel) (by decide +kernel)
set_option maxRecDepth 20000 in
theorem gX5_digest_X3_areThere : GoodIn wsX5_digest (wsV RX5 73 RX3 yX3_areThere wsX3_areThere) := goodIn_app (goodIn_of _ (by decide +kernel)) ggX5_digest_X3_areThere
set_option maxRecDepth 20000 in
theorem ggX5_digest_X5_withSums : GoodIn wsX5_digest wsX5_withSums := goodIn_r _ [15, 3, 2, 16, 17, 18, 14, 19, 5, 6, 7, 8, 9, 10, 20, 21, 22, 23, 24, 25, 26, 27, 28, 29, 30, 31, 32, 33, 34, 35, 36, 37, 38, 39, 40, 41, 42, 43, 44, 45, 46, 47, 48, 49, 50, 51, 52, 53, 54, 55, 56, 57, 58, 59, 60, 61, 62, 63, 64, 65, 66, 67, 68, 69, 70, 71, 72, 73, 74, 75, 76, 77, 78, 79, 80, 129, 130, 131, 132, 133, 134, 135, 136, 137, 138, 139, 140, 141, 142] (by decide +kernel) (by decide +kernel)
set_option maxRecDepth 20000 in
theorem gX5_digest_X5_withSums : GoodIn wsX5_digest (wsV RX5 175 RX5 yX5_withSums wsX5_withSums) := goodIn_app (goodIn_of _ (by decide +kernel)) ggX5_digest_X5_withSums
set_option maxRecDepth 20000 in
theorem ggX5_digest_X5_seed : GoodIn wsX5_digest wsX5_seed := goodIn_r _ [84, 85, 86, 87, 88, 89, 90, 91, 129, 130, 131, 132, 133, 143] (by decide +kernel) (by decide +kernel)
set_option maxRecDepth 20000 in
theorem gX5_digest_X5_seed : GoodIn wsX5_digest (wsV RX5 181 RX5 yX5_seed wsX5_seed) := goodIn_app (goodIn_of _ (by decide +kernel)) ggX5_digest_X5_seed
set_option maxRecDepth 20000 in
theorem ggX5_digest_X1_size : GoodIn wsX5_digest wsX1_size := goodIn_r _ [96, 97, 144, 145] (by decide +kernel) (by decide +kernel)
set_option maxRecDepth 20000 in
theorem gX5_digest_X1_size : GoodIn wsX5_digest (wsV RX5 48 RX1 yX1_size wsX1_size) := goodIn_app (goodIn_of _ (by decide +kernel)) ggX5_digest_X1_size
set_option maxRecDepth 20000 in
theorem ggX5_digest_X1_letterAt : GoodIn wsX5_digest wsX1_letterAt := goodIn_r _ [101, 102, 144, 145] (by decide +kernel) (by decide +kernel)
set_option maxRecDepth 20000 in
theorem gX5_digest_X1_letterAt : GoodIn wsX5_digest (wsV RX5 184 RX1 yX1_letterAt wsX1_letterAt) := goodIn_app (goodIn_of _ (by decide +kernel)) ggX5_digest_X1_letterAt
set_option maxRecDepth 20000 in
theorem ggX5_digest_X5_count : GoodIn wsX5_digest wsX5_count := goodIn_r _ [106, 4, 107, 92, 93, 94, 95, 96, 97, 108, 109, 110, 111, 112, 113, 114, 115, 116, 117, 118, 119, 120, 121, 122, 123, 124, 125, 126, 127, 128, 129, 130, 131, 132, 133, 144, 145, 146, 147, 148, 149] (by decide +kernel) (by decide +kernel)
set_option maxRecDepth 20000 in
theorem gX5_digest_X5_count : GoodIn wsX5_digest (wsV RX5 187 RX5 yX5_count wsX5_count) := goodIn_app (goodIn_of _ (by decide +kernel)) ggX5_digest_X5_count
theorem dX5_digest_0 : decode cX5_digest 0 = .ok (.ldc2_w 173, 3) := by decide +kernel
theorem dX5_digest_3 : decode cX5_digest 3 = .ok (.lstore_n 1, 1) := by decide +kernel
theorem dX5_digest_4 : decode cX5_digest 4 = .ok (.aload_n 0, 1) := by decide +kernel
theorem dX5_digest_5 : decode cX5_digest 5 = .ok (.getfield 26, 3) := by decide +kernel
theorem dX5_digest_8 : decode cX5_digest 8 = .ok (.invokevirtual 73, 3) := by decide +kernel
theorem dX5_digest_11 : decode cX5_digest 11 = .ok (.ifCond .eq 9, 3) := by decide +kernel
theorem dX5_digest_14 : decode cX5_digest 14 = .ok (.aload_n 0, 1) := by decide +kernel
theorem dX5_digest_15 : decode cX5_digest 15 = .ok (.lload_n 1, 1) := by decide +kernel
theorem dX5_digest_16 : decode cX5_digest 16 = .ok (.invokevirtual 175, 3) := by decide +kernel
theorem dX5_digest_19 : decode cX5_digest 19 = .ok (.lstore_n 1, 1) := by decide +kernel
theorem dX5_digest_20 : decode cX5_digest 20 = .ok (.ldc2_w 179, 3) := by decide +kernel
theorem dX5_digest_23 : decode cX5_digest 23 = .ok (.lload_n 1, 1) := by decide +kernel
theorem dX5_digest_24 : decode cX5_digest 24 = .ok (.lmul, 1) := by decide +kernel
theorem dX5_digest_25 : decode cX5_digest 25 = .ok (.aload_n 0, 1) := by decide +kernel
theorem dX5_digest_26 : decode cX5_digest 26 = .ok (.invokevirtual 181, 3) := by decide +kernel
theorem dX5_digest_29 : decode cX5_digest 29 = .ok (.i2l, 1) := by decide +kernel
theorem dX5_digest_30 : decode cX5_digest 30 = .ok (.ladd, 1) := by decide +kernel
theorem dX5_digest_31 : decode cX5_digest 31 = .ok (.lstore_n 1, 1) := by decide +kernel
theorem dX5_digest_32 : decode cX5_digest 32 = .ok (.iconst 0, 1) := by decide +kernel
theorem dX5_digest_33 : decode cX5_digest 33 = .ok (.istore_n 3, 1) := by decide +kernel
theorem dX5_digest_34 : decode cX5_digest 34 = .ok (.iload_n 3, 1) := by decide +kernel
theorem dX5_digest_35 : decode cX5_digest 35 = .ok (.aload_n 0, 1) := by decide +kernel
theorem dX5_digest_36 : decode cX5_digest 36 = .ok (.getfield 10, 3) := by decide +kernel
theorem dX5_digest_39 : decode cX5_digest 39 = .ok (.invokevirtual 48, 3) := by decide +kernel
theorem dX5_digest_42 : decode cX5_digest 42 = .ok (.if_icmp .ge 25, 3) := by decide +kernel
theorem dX5_digest_45 : decode cX5_digest 45 = .ok (.ldc2_w 179, 3) := by decide +kernel
theorem dX5_digest_48 : decode cX5_digest 48 = .ok (.lload_n 1, 1) := by decide +kernel
theorem dX5_digest_49 : decode cX5_digest 49 = .ok (.lmul, 1) := by decide +kernel
theorem dX5_digest_50 : decode cX5_digest 50 = .ok (.aload_n 0, 1) := by decide +kernel
theorem dX5_digest_51 : decode cX5_digest 51 = .ok (.getfield 10, 3) := by decide +kernel
theorem dX5_digest_54 : decode cX5_digest 54 = .ok (.iload_n 3, 1) := by decide +kernel
theorem dX5_digest_55 : decode cX5_digest 55 = .ok (.invokevirtual 184, 3) := by decide +kernel
theorem dX5_digest_58 : decode cX5_digest 58 = .ok (.i2l, 1) := by decide +kernel
theorem dX5_digest_59 : decode cX5_digest 59 = .ok (.ladd, 1) := by decide +kernel
theorem dX5_digest_60 : decode cX5_digest 60 = .ok (.lstore_n 1, 1) := by decide +kernel
theorem dX5_digest_61 : decode cX5_digest 61 = .ok (.iinc 3 1, 3) := by decide +kernel
theorem dX5_digest_64 : decode cX5_digest 64 = .ok (.goto (-30), 3) := by decide +kernel
theorem dX5_digest_67 : decode cX5_digest 67 = .ok (.iconst 0, 1) := by decide +kernel
theorem dX5_digest_68 : decode cX5_digest 68 = .ok (.istore_n 3, 1) := by decide +kernel
theorem dX5_digest_69 : decode cX5_digest 69 = .ok (.iload_n 3, 1) := by decide +kernel
theorem dX5_digest_70 : decode cX5_digest 70 = .ok (.bipush 7, 2) := by decide +kernel
theorem dX5_digest_72 : decode cX5_digest 72 = .ok (.if_icmp .gt 22, 3) := by decide +kernel
theorem dX5_digest_75 : decode cX5_digest 75 = .ok (.ldc2_w 179, 3) := by decide +kernel
theorem dX5_digest_78 : decode cX5_digest 78 = .ok (.lload_n 1, 1) := by decide +kernel
theorem dX5_digest_79 : decode cX5_digest 79 = .ok (.lmul, 1) := by decide +kernel
theorem dX5_digest_80 : decode cX5_digest 80 = .ok (.aload_n 0, 1) := by decide +kernel
theorem dX5_digest_81 : decode cX5_digest 81 = .ok (.iload_n 3, 1) := by decide +kernel
theorem dX5_digest_82 : decode cX5_digest 82 = .ok (.invokevirtual 187, 3) := by decide +kernel
theorem dX5_digest_85 : decode cX5_digest 85 = .ok (.i2l, 1) := by decide +kernel
theorem dX5_digest_86 : decode cX5_digest 86 = .ok (.ladd, 1) := by decide +kernel
theorem dX5_digest_87 : decode cX5_digest 87 = .ok (.lstore_n 1, 1) := by decide +kernel
theorem dX5_digest_88 : decode cX5_digest 88 = .ok (.iinc 3 1, 3) := by decide +kernel
theorem dX5_digest_91 : decode cX5_digest 91 = .ok (.goto (-22), 3) := by decide +kernel
theorem dX5_digest_94 : decode cX5_digest 94 = .ok (.lload_n 1, 1) := by decide +kernel
theorem dX5_digest_95 : decode cX5_digest 95 = .ok (.lreturn, 1) := by decide +kernel
set_option maxRecDepth 20000 in
theorem ggX5_withSums_X5_code : GoodIn wsX5_withSums wsX5_code := goodIn_r _ [7, 2, 8, 9, 10, 11, 12, 13, 14, 15, 16, 17, 18, 19, 20, 21, 22, 23, 24, 25, 26, 27, 28, 29, 30, 31, 32, 33, 34, 35, 36, 37, 38, 39, 40, 41, 42, 75, 76, 77, 78, 79, 80, 81, 82, 83, 84, 85, 86, 87, 88] (by decide +kernel) (by decide +kernel)
set_option maxRecDepth 20000 in
theorem gX5_withSums_X5_code : GoodIn wsX5_withSums (wsV RX5 190 RX5 yX5_code wsX5_code) := goodIn_app (goodIn_of _ (by decide +kernel)) ggX5_withSums_X5_code
set_option maxRecDepth 20000 in
theorem ggX5_withSums_X3_rowCount : GoodIn wsX5_withSums wsX3_rowCount := goodIn_r _ [21, 22, 80, 81, 82, 83, 84, 85, 86, 87, 88] (by decide +kernel) (by decide +kernel)
set_option maxRecDepth 20000 in
theorem gX5_withSums_X3_rowCount : GoodIn wsX5_withSums (wsV RX5 76 RX3 yX3_rowCount wsX3_rowCount) := goodIn_app (goodIn_of _ (by decide +kernel)) ggX5_withSums_X3_rowCount
set_option maxRecDepth 20000 in
theorem ggX5_withSums_X3_rowAt : GoodIn wsX5_withSums wsX3_rowAt := goodIn_r _ [46, 47, 48, 49, 50, 11, 51, 22, 80, 81, 82, 83, 84, 85, 86, 87, 88] (by decide +kernel) (by decide +kernel)
set_option maxRecDepth 20000 in
theorem gX5_withSums_X3_rowAt : GoodIn wsX5_withSums (wsV RX5 94 RX3 yX3_rowAt wsX3_rowAt) := goodIn_app (goodIn_of _ (by decide +kernel)) ggX5_withSums_X3_rowAt
set_option maxRecDepth 20000 in
theorem ggX5_withSums_X3_syndromes : GoodIn wsX5_withSums wsX3_syndromes := goodIn_r _ [55, 22, 80, 81, 82, 83, 84, 85, 86, 87, 88] (by decide +kernel) (by decide +kernel)
set_option maxRecDepth 20000 in
theorem gX5_withSums_X3_syndromes : GoodIn wsX5_withSums (wsV RX5 193 RX3 yX3_syndromes wsX3_syndromes) := goodIn_app (goodIn_of _ (by decide +kernel)) ggX5_withSums_X3_syndromes
set_option maxRecDepth 20000 in
theorem ggX5_withSums_X3_leaderOf : GoodIn wsX5_withSums wsX3_leaderOf := goodIn_r _ [59, 60, 61, 62, 63, 11, 64, 65, 53, 54, 55, 22, 80, 81, 82, 83, 84, 85, 86, 87, 88] (by decide +kernel) (by decide +kernel)
set_option maxRecDepth 20000 in
theorem gX5_withSums_X3_leaderOf : GoodIn wsX5_withSums (wsV RX5 107 RX3 yX3_leaderOf wsX3_leaderOf) := goodIn_app (goodIn_of _ (by decide +kernel)) ggX5_withSums_X3_leaderOf
set_option maxRecDepth 20000 in
theorem ggX5_withSums_X3_length : GoodIn wsX5_withSums wsX3_length := goodIn_r _ [17, 13, 80, 81, 82, 83, 84, 85, 86, 87, 88] (by decide +kernel) (by decide +kernel)
set_option maxRecDepth 20000 in
theorem gX5_withSums_X3_length : GoodIn wsX5_withSums (wsV RX5 70 RX3 yX3_length wsX3_length) := goodIn_app (goodIn_of _ (by decide +kernel)) ggX5_withSums_X3_length
set_option maxRecDepth 20000 in
theorem ggX5_withSums_X3_leadersOfWeight : GoodIn wsX5_withSums wsX3_leadersOfWeight := goodIn_r _ [69, 70, 71, 72, 73, 11, 74, 13, 80, 81, 82, 83, 84, 85, 86, 87, 88] (by decide +kernel) (by decide +kernel)
set_option maxRecDepth 20000 in
theorem gX5_withSums_X3_leadersOfWeight : GoodIn wsX5_withSums (wsV RX5 117 RX3 yX3_leadersOfWeight wsX3_leadersOfWeight) := goodIn_app (goodIn_of _ (by decide +kernel)) ggX5_withSums_X3_leadersOfWeight
theorem dX5_withSums_0 : decode cX5_withSums 0 = .ok (.lload_n 1, 1) := by decide +kernel
theorem dX5_withSums_1 : decode cX5_withSums 1 = .ok (.lstore_n 3, 1) := by decide +kernel
theorem dX5_withSums_2 : decode cX5_withSums 2 = .ok (.iconst 0, 1) := by decide +kernel
theorem dX5_withSums_3 : decode cX5_withSums 3 = .ok (.istore 5, 2) := by decide +kernel
theorem dX5_withSums_5 : decode cX5_withSums 5 = .ok (.iload 5, 2) := by decide +kernel
theorem dX5_withSums_7 : decode cX5_withSums 7 = .ok (.bipush 6, 2) := by decide +kernel
theorem dX5_withSums_9 : decode cX5_withSums 9 = .ok (.if_icmp .gt 23, 3) := by decide +kernel
theorem dX5_withSums_12 : decode cX5_withSums 12 = .ok (.ldc2_w 179, 3) := by decide +kernel
theorem dX5_withSums_15 : decode cX5_withSums 15 = .ok (.lload_n 3, 1) := by decide +kernel
theorem dX5_withSums_16 : decode cX5_withSums 16 = .ok (.lmul, 1) := by decide +kernel
theorem dX5_withSums_17 : decode cX5_withSums 17 = .ok (.aload_n 0, 1) := by decide +kernel
theorem dX5_withSums_18 : decode cX5_withSums 18 = .ok (.iload 5, 2) := by decide +kernel
theorem dX5_withSums_20 : decode cX5_withSums 20 = .ok (.invokevirtual 190, 3) := by decide +kernel
theorem dX5_withSums_23 : decode cX5_withSums 23 = .ok (.i2l, 1) := by decide +kernel
theorem dX5_withSums_24 : decode cX5_withSums 24 = .ok (.ladd, 1) := by decide +kernel
theorem dX5_withSums_25 : decode cX5_withSums 25 = .ok (.lstore_n 3, 1) := by decide +kernel
theorem dX5_withSums_26 : decode cX5_withSums 26 = .ok (.iinc 5 1, 3) := by decide +kernel
theorem dX5_withSums_29 : decode cX5_withSums 29 = .ok (.goto (-24), 3) := by decide +kernel
theorem dX5_withSums_32 : decode cX5_withSums 32 = .ok (.iconst 0, 1) := by decide +kernel
theorem dX5_withSums_33 : decode cX5_withSums 33 = .ok (.istore 5, 2) := by decide +kernel
theorem dX5_withSums_35 : decode cX5_withSums 35 = .ok (.iload 5, 2) := by decide +kernel
theorem dX5_withSums_37 : decode cX5_withSums 37 = .ok (.aload_n 0, 1) := by decide +kernel
theorem dX5_withSums_38 : decode cX5_withSums 38 = .ok (.getfield 26, 3) := by decide +kernel
theorem dX5_withSums_41 : decode cX5_withSums 41 = .ok (.invokevirtual 76, 3) := by decide +kernel
theorem dX5_withSums_44 : decode cX5_withSums 44 = .ok (.if_icmp .ge 26, 3) := by decide +kernel
theorem dX5_withSums_47 : decode cX5_withSums 47 = .ok (.ldc2_w 179, 3) := by decide +kernel
theorem dX5_withSums_50 : decode cX5_withSums 50 = .ok (.lload_n 3, 1) := by decide +kernel
theorem dX5_withSums_51 : decode cX5_withSums 51 = .ok (.lmul, 1) := by decide +kernel
theorem dX5_withSums_52 : decode cX5_withSums 52 = .ok (.aload_n 0, 1) := by decide +kernel
theorem dX5_withSums_53 : decode cX5_withSums 53 = .ok (.getfield 26, 3) := by decide +kernel
theorem dX5_withSums_56 : decode cX5_withSums 56 = .ok (.iload 5, 2) := by decide +kernel
theorem dX5_withSums_58 : decode cX5_withSums 58 = .ok (.invokevirtual 94, 3) := by decide +kernel
theorem dX5_withSums_61 : decode cX5_withSums 61 = .ok (.i2l, 1) := by decide +kernel
theorem dX5_withSums_62 : decode cX5_withSums 62 = .ok (.ladd, 1) := by decide +kernel
theorem dX5_withSums_63 : decode cX5_withSums 63 = .ok (.lstore_n 3, 1) := by decide +kernel
theorem dX5_withSums_64 : decode cX5_withSums 64 = .ok (.iinc 5 1, 3) := by decide +kernel
theorem dX5_withSums_67 : decode cX5_withSums 67 = .ok (.goto (-32), 3) := by decide +kernel
theorem dX5_withSums_70 : decode cX5_withSums 70 = .ok (.iconst 0, 1) := by decide +kernel
theorem dX5_withSums_71 : decode cX5_withSums 71 = .ok (.istore 5, 2) := by decide +kernel
theorem dX5_withSums_73 : decode cX5_withSums 73 = .ok (.iload 5, 2) := by decide +kernel
theorem dX5_withSums_75 : decode cX5_withSums 75 = .ok (.aload_n 0, 1) := by decide +kernel
theorem dX5_withSums_76 : decode cX5_withSums 76 = .ok (.getfield 26, 3) := by decide +kernel
theorem dX5_withSums_79 : decode cX5_withSums 79 = .ok (.invokevirtual 193, 3) := by decide +kernel
theorem dX5_withSums_82 : decode cX5_withSums 82 = .ok (.if_icmp .ge 26, 3) := by decide +kernel
theorem dX5_withSums_85 : decode cX5_withSums 85 = .ok (.ldc2_w 179, 3) := by decide +kernel
theorem dX5_withSums_88 : decode cX5_withSums 88 = .ok (.lload_n 3, 1) := by decide +kernel
theorem dX5_withSums_89 : decode cX5_withSums 89 = .ok (.lmul, 1) := by decide +kernel
theorem dX5_withSums_90 : decode cX5_withSums 90 = .ok (.aload_n 0, 1) := by decide +kernel
theorem dX5_withSums_91 : decode cX5_withSums 91 = .ok (.getfield 26, 3) := by decide +kernel
theorem dX5_withSums_94 : decode cX5_withSums 94 = .ok (.iload 5, 2) := by decide +kernel
theorem dX5_withSums_96 : decode cX5_withSums 96 = .ok (.invokevirtual 107, 3) := by decide +kernel
theorem dX5_withSums_99 : decode cX5_withSums 99 = .ok (.i2l, 1) := by decide +kernel
theorem dX5_withSums_100 : decode cX5_withSums 100 = .ok (.ladd, 1) := by decide +kernel
theorem dX5_withSums_101 : decode cX5_withSums 101 = .ok (.lstore_n 3, 1) := by decide +kernel
theorem dX5_withSums_102 : decode cX5_withSums 102 = .ok (.iinc 5 1, 3) := by decide +kernel
theorem dX5_withSums_105 : decode cX5_withSums 105 = .ok (.goto (-32), 3) := by decide +kernel
theorem dX5_withSums_108 : decode cX5_withSums 108 = .ok (.iconst 0, 1) := by decide +kernel
theorem dX5_withSums_109 : decode cX5_withSums 109 = .ok (.istore 5, 2) := by decide +kernel
theorem dX5_withSums_111 : decode cX5_withSums 111 = .ok (.iload 5, 2) := by decide +kernel
theorem dX5_withSums_113 : decode cX5_withSums 113 = .ok (.aload_n 0, 1) := by decide +kernel
theorem dX5_withSums_114 : decode cX5_withSums 114 = .ok (.getfield 26, 3) := by decide +kernel
theorem dX5_withSums_117 : decode cX5_withSums 117 = .ok (.invokevirtual 70, 3) := by decide +kernel
theorem dX5_withSums_120 : decode cX5_withSums 120 = .ok (.if_icmp .gt 26, 3) := by decide +kernel
theorem dX5_withSums_123 : decode cX5_withSums 123 = .ok (.ldc2_w 179, 3) := by decide +kernel
theorem dX5_withSums_126 : decode cX5_withSums 126 = .ok (.lload_n 3, 1) := by decide +kernel
theorem dX5_withSums_127 : decode cX5_withSums 127 = .ok (.lmul, 1) := by decide +kernel
theorem dX5_withSums_128 : decode cX5_withSums 128 = .ok (.aload_n 0, 1) := by decide +kernel
theorem dX5_withSums_129 : decode cX5_withSums 129 = .ok (.getfield 26, 3) := by decide +kernel
theorem dX5_withSums_132 : decode cX5_withSums 132 = .ok (.iload 5, 2) := by decide +kernel
theorem dX5_withSums_134 : decode cX5_withSums 134 = .ok (.invokevirtual 117, 3) := by decide +kernel
theorem dX5_withSums_137 : decode cX5_withSums 137 = .ok (.i2l, 1) := by decide +kernel
theorem dX5_withSums_138 : decode cX5_withSums 138 = .ok (.ladd, 1) := by decide +kernel
theorem dX5_withSums_139 : decode cX5_withSums 139 = .ok (.lstore_n 3, 1) := by decide +kernel
theorem dX5_withSums_140 : decode cX5_withSums 140 = .ok (.iinc 5 1, 3) := by decide +kernel
theorem dX5_withSums_143 : decode cX5_withSums 143 = .ok (.goto (-32), 3) := by decide +kernel
theorem dX5_withSums_146 : decode cX5_withSums 146 = .ok (.lload_n 3, 1) := by decide +kernel
theorem dX5_withSums_147 : decode cX5_withSums 147 = .ok (.lreturn, 1) := by decide +kernel
set_option maxRecDepth 20000 in
theorem ggX5_sendAndCount_X3_verdictOf : GoodIn wsX5_sendAndCount wsX3_verdictOf := goodIn_r _ [7, 8, 9, 10, 11, 6, 12, 13, 14, 15, 16, 17, 18, 19, 20, 21, 22, 23, 24, 25, 26, 27, 28, 29, 30, 31, 32, 33, 34, 35, 36, 37, 38, 62, 63, 64, 65, 66, 67, 68, 69, 70] (by decide +kernel) (by decide +kernel)
set_option maxRecDepth 20000 in
theorem gX5_sendAndCount_X3_verdictOf : GoodIn wsX5_sendAndCount (wsV RX5 126 RX3 yX3_verdictOf wsX3_verdictOf) := goodIn_app (goodIn_of _ (by decide +kernel)) ggX5_sendAndCount_X3_verdictOf
set_option maxRecDepth 20000 in
theorem ggX5_sendAndCount_X3_length : GoodIn wsX5_sendAndCount wsX3_length := goodIn_r _ [42, 43, 62, 63, 64, 65, 66, 67, 68, 69, 70] (by decide +kernel) (by decide +kernel)
set_option maxRecDepth 20000 in
theorem gX5_sendAndCount_X3_length : GoodIn wsX5_sendAndCount (wsV RX5 70 RX3 yX3_length wsX3_length) := goodIn_app (goodIn_of _ (by decide +kernel)) ggX5_sendAndCount_X3_length
set_option maxRecDepth 20000 in
theorem ggX5_sendAndCount_X3_rank : GoodIn wsX5_sendAndCount wsX3_rank := goodIn_r _ [47, 48, 62, 63, 64, 65, 66, 67, 68, 69, 70] (by decide +kernel) (by decide +kernel)
set_option maxRecDepth 20000 in
theorem gX5_sendAndCount_X3_rank : GoodIn wsX5_sendAndCount (wsV RX5 79 RX3 yX3_rank wsX3_rank) := goodIn_app (goodIn_of _ (by decide +kernel)) ggX5_sendAndCount_X3_rank
set_option maxRecDepth 20000 in
theorem ggX5_sendAndCount_X4_sentPlain : GoodIn wsX5_sendAndCount wsX4_sentPlain := goodIn_r _ [53, 54, 55, 56, 71, 72, 73, 74] (by decide +kernel) (by decide +kernel)
set_option maxRecDepth 20000 in
theorem gX5_sendAndCount_X4_sentPlain : GoodIn wsX5_sendAndCount (wsV RX5 196 RX4 yX4_sentPlain wsX4_sentPlain) := goodIn_app (goodIn_of _ (by decide +kernel)) ggX5_sendAndCount_X4_sentPlain
theorem dX5_sendAndCount_0 : decode cX5_sendAndCount 0 = .ok (.aload_n 0, 1) := by decide +kernel
theorem dX5_sendAndCount_1 : decode cX5_sendAndCount 1 = .ok (.getfield 26, 3) := by decide +kernel
theorem dX5_sendAndCount_4 : decode cX5_sendAndCount 4 = .ok (.iload_n 1, 1) := by decide +kernel
theorem dX5_sendAndCount_5 : decode cX5_sendAndCount 5 = .ok (.iload_n 2, 1) := by decide +kernel
theorem dX5_sendAndCount_6 : decode cX5_sendAndCount 6 = .ok (.invokevirtual 126, 3) := by decide +kernel
theorem dX5_sendAndCount_9 : decode cX5_sendAndCount 9 = .ok (.istore_n 3, 1) := by decide +kernel
theorem dX5_sendAndCount_10 : decode cX5_sendAndCount 10 = .ok (.aload_n 0, 1) := by decide +kernel
theorem dX5_sendAndCount_11 : decode cX5_sendAndCount 11 = .ok (.getfield 33, 3) := by decide +kernel
theorem dX5_sendAndCount_14 : decode cX5_sendAndCount 14 = .ok (.iload_n 3, 1) := by decide +kernel
theorem dX5_sendAndCount_15 : decode cX5_sendAndCount 15 = .ok (.aload_n 0, 1) := by decide +kernel
theorem dX5_sendAndCount_16 : decode cX5_sendAndCount 16 = .ok (.getfield 26, 3) := by decide +kernel
theorem dX5_sendAndCount_19 : decode cX5_sendAndCount 19 = .ok (.invokevirtual 70, 3) := by decide +kernel
theorem dX5_sendAndCount_22 : decode cX5_sendAndCount 22 = .ok (.aload_n 0, 1) := by decide +kernel
theorem dX5_sendAndCount_23 : decode cX5_sendAndCount 23 = .ok (.getfield 26, 3) := by decide +kernel
theorem dX5_sendAndCount_26 : decode cX5_sendAndCount 26 = .ok (.invokevirtual 79, 3) := by decide +kernel
theorem dX5_sendAndCount_29 : decode cX5_sendAndCount 29 = .ok (.invokevirtual 196, 3) := by decide +kernel
theorem dX5_sendAndCount_32 : decode cX5_sendAndCount 32 = .ok (.iload_n 3, 1) := by decide +kernel
theorem dX5_sendAndCount_33 : decode cX5_sendAndCount 33 = .ok (.ireturn, 1) := by decide +kernel
set_option maxRecDepth 20000 in
theorem ggX5_drawUnlikePlaces_X3_length : GoodIn wsX5_drawUnlikePlaces wsX3_length := goodIn_r _ [7, 8, 23, 24, 25, 26, 27, 28, 29, 30, 31] (by decide +kernel) (by decide +kernel)
set_option maxRecDepth 20000 in
theorem gX5_drawUnlikePlaces_X3_length : GoodIn wsX5_drawUnlikePlaces (wsV RX5 70 RX3 yX3_length wsX3_length) := goodIn_app (goodIn_of _ (by decide +kernel)) ggX5_drawUnlikePlaces_X3_length
set_option maxRecDepth 20000 in
theorem ggX5_drawUnlikePlaces_X0_next : GoodIn wsX5_drawUnlikePlaces wsX0_next := goodIn_r _ [13, 14, 15, 16, 17, 32] (by decide +kernel) (by decide +kernel)
set_option maxRecDepth 20000 in
theorem gX5_drawUnlikePlaces_X0_next : GoodIn wsX5_drawUnlikePlaces (wsV RX5 152 RX0 yX0_next wsX0_next) := goodIn_app (goodIn_of _ (by decide +kernel)) ggX5_drawUnlikePlaces_X0_next
theorem dX5_drawUnlikePlaces_0 : decode cX5_drawUnlikePlaces 0 = .ok (.iconst 0, 1) := by decide +kernel
theorem dX5_drawUnlikePlaces_1 : decode cX5_drawUnlikePlaces 1 = .ok (.istore_n 2, 1) := by decide +kernel
theorem dX5_drawUnlikePlaces_2 : decode cX5_drawUnlikePlaces 2 = .ok (.iconst 0, 1) := by decide +kernel
theorem dX5_drawUnlikePlaces_3 : decode cX5_drawUnlikePlaces 3 = .ok (.istore_n 3, 1) := by decide +kernel
theorem dX5_drawUnlikePlaces_4 : decode cX5_drawUnlikePlaces 4 = .ok (.iload_n 3, 1) := by decide +kernel
theorem dX5_drawUnlikePlaces_5 : decode cX5_drawUnlikePlaces 5 = .ok (.aload_n 0, 1) := by decide +kernel
theorem dX5_drawUnlikePlaces_6 : decode cX5_drawUnlikePlaces 6 = .ok (.getfield 26, 3) := by decide +kernel
theorem dX5_drawUnlikePlaces_9 : decode cX5_drawUnlikePlaces 9 = .ok (.invokevirtual 70, 3) := by decide +kernel
theorem dX5_drawUnlikePlaces_12 : decode cX5_drawUnlikePlaces 12 = .ok (.if_icmp .ge 27, 3) := by decide +kernel
theorem dX5_drawUnlikePlaces_15 : decode cX5_drawUnlikePlaces 15 = .ok (.aload_n 0, 1) := by decide +kernel
theorem dX5_drawUnlikePlaces_16 : decode cX5_drawUnlikePlaces 16 = .ok (.getfield 40, 3) := by decide +kernel
theorem dX5_drawUnlikePlaces_19 : decode cX5_drawUnlikePlaces 19 = .ok (.iconst 4, 1) := by decide +kernel
theorem dX5_drawUnlikePlaces_20 : decode cX5_drawUnlikePlaces 20 = .ok (.invokevirtual 152, 3) := by decide +kernel
theorem dX5_drawUnlikePlaces_23 : decode cX5_drawUnlikePlaces 23 = .ok (.iload_n 1, 1) := by decide +kernel
theorem dX5_drawUnlikePlaces_24 : decode cX5_drawUnlikePlaces 24 = .ok (.if_icmp .ge 9, 3) := by decide +kernel
theorem dX5_drawUnlikePlaces_27 : decode cX5_drawUnlikePlaces 27 = .ok (.iload_n 2, 1) := by decide +kernel
theorem dX5_drawUnlikePlaces_28 : decode cX5_drawUnlikePlaces 28 = .ok (.iconst 1, 1) := by decide +kernel
theorem dX5_drawUnlikePlaces_29 : decode cX5_drawUnlikePlaces 29 = .ok (.iload_n 3, 1) := by decide +kernel
theorem dX5_drawUnlikePlaces_30 : decode cX5_drawUnlikePlaces 30 = .ok (.ishl, 1) := by decide +kernel
theorem dX5_drawUnlikePlaces_31 : decode cX5_drawUnlikePlaces 31 = .ok (.ior, 1) := by decide +kernel
theorem dX5_drawUnlikePlaces_32 : decode cX5_drawUnlikePlaces 32 = .ok (.istore_n 2, 1) := by decide +kernel
theorem dX5_drawUnlikePlaces_33 : decode cX5_drawUnlikePlaces 33 = .ok (.iinc 3 1, 3) := by decide +kernel
theorem dX5_drawUnlikePlaces_36 : decode cX5_drawUnlikePlaces 36 = .ok (.goto (-32), 3) := by decide +kernel
theorem dX5_drawUnlikePlaces_39 : decode cX5_drawUnlikePlaces 39 = .ok (.iload_n 2, 1) := by decide +kernel
theorem dX5_drawUnlikePlaces_40 : decode cX5_drawUnlikePlaces 40 = .ok (.ireturn, 1) := by decide +kernel
theorem dX6_init_0 : decode cX6_init 0 = .ok (.aload_n 0, 1) := by decide +kernel
theorem dX6_init_1 : decode cX6_init 1 = .ok (.invokespecial 1, 3) := by decide +kernel
theorem dX6_init_4 : decode cX6_init 4 = .ok (.aload_n 0, 1) := by decide +kernel
theorem dX6_init_5 : decode cX6_init 5 = .ok (.bipush 56, 2) := by decide +kernel
theorem dX6_init_7 : decode cX6_init 7 = .ok (.newarray .int, 2) := by decide +kernel
theorem dX6_init_9 : decode cX6_init 9 = .ok (.putfield 7, 3) := by decide +kernel
theorem dX6_init_12 : decode cX6_init 12 = .ok (.aload_n 0, 1) := by decide +kernel
theorem dX6_init_13 : decode cX6_init 13 = .ok (.iconst 5, 1) := by decide +kernel
theorem dX6_init_14 : decode cX6_init 14 = .ok (.newarray .int, 2) := by decide +kernel
theorem dX6_init_16 : decode cX6_init 16 = .ok (.putfield 13, 3) := by decide +kernel
theorem dX6_init_19 : decode cX6_init 19 = .ok (.aload_n 0, 1) := by decide +kernel
theorem dX6_init_20 : decode cX6_init 20 = .ok (.iconst (-1), 1) := by decide +kernel
theorem dX6_init_21 : decode cX6_init 21 = .ok (.putfield 16, 3) := by decide +kernel
theorem dX6_init_24 : decode cX6_init 24 = .ok (.aload_n 0, 1) := by decide +kernel
theorem dX6_init_25 : decode cX6_init 25 = .ok (.iconst 4, 1) := by decide +kernel
theorem dX6_init_26 : decode cX6_init 26 = .ok (.newarray .int, 2) := by decide +kernel
theorem dX6_init_28 : decode cX6_init 28 = .ok (.putfield 20, 3) := by decide +kernel
theorem dX6_init_31 : decode cX6_init 31 = .ok (.aload_n 0, 1) := by decide +kernel
theorem dX6_init_32 : decode cX6_init 32 = .ok (.iconst 5, 1) := by decide +kernel
theorem dX6_init_33 : decode cX6_init 33 = .ok (.newarray .int, 2) := by decide +kernel
theorem dX6_init_35 : decode cX6_init 35 = .ok (.putfield 23, 3) := by decide +kernel
theorem dX6_init_38 : decode cX6_init 38 = .ok (.aload_n 0, 1) := by decide +kernel
theorem dX6_init_39 : decode cX6_init 39 = .ok (.sipush 1024, 3) := by decide +kernel
theorem dX6_init_42 : decode cX6_init 42 = .ok (.newarray .int, 2) := by decide +kernel
theorem dX6_init_44 : decode cX6_init 44 = .ok (.putfield 26, 3) := by decide +kernel
theorem dX6_init_47 : decode cX6_init 47 = .ok (.aload_n 0, 1) := by decide +kernel
theorem dX6_init_48 : decode cX6_init 48 = .ok (.bipush 32, 2) := by decide +kernel
theorem dX6_init_50 : decode cX6_init 50 = .ok (.newarray .int, 2) := by decide +kernel
theorem dX6_init_52 : decode cX6_init 52 = .ok (.putfield 29, 3) := by decide +kernel
theorem dX6_init_55 : decode cX6_init 55 = .ok (.return_, 1) := by decide +kernel
theorem dX6_within_0 : decode cX6_within 0 = .ok (.iload_n 0, 1) := by decide +kernel
theorem dX6_within_1 : decode cX6_within 1 = .ok (.iload_n 1, 1) := by decide +kernel
theorem dX6_within_2 : decode cX6_within 2 = .ok (.if_icmp .lt 12, 3) := by decide +kernel
theorem dX6_within_5 : decode cX6_within 5 = .ok (.iload_n 0, 1) := by decide +kernel
theorem dX6_within_6 : decode cX6_within 6 = .ok (.iload_n 2, 1) := by decide +kernel
theorem dX6_within_7 : decode cX6_within 7 = .ok (.if_icmp .gt 7, 3) := by decide +kernel
theorem dX6_within_10 : decode cX6_within 10 = .ok (.iconst 1, 1) := by decide +kernel
theorem dX6_within_11 : decode cX6_within 11 = .ok (.goto 4, 3) := by decide +kernel
theorem dX6_within_14 : decode cX6_within 14 = .ok (.iconst 0, 1) := by decide +kernel
theorem dX6_within_15 : decode cX6_within 15 = .ok (.ireturn, 1) := by decide +kernel
theorem dX6_ones_0 : decode cX6_ones 0 = .ok (.iconst 0, 1) := by decide +kernel
theorem dX6_ones_1 : decode cX6_ones 1 = .ok (.istore_n 1, 1) := by decide +kernel
theorem dX6_ones_2 : decode cX6_ones 2 = .ok (.iconst 0, 1) := by decide +kernel
theorem dX6_ones_3 : decode cX6_ones 3 = .ok (.istore_n 2, 1) := by decide +kernel
theorem dX6_ones_4 : decode cX6_ones 4 = .ok (.iload_n 2, 1) := by decide +kernel
theorem dX6_ones_5 : decode cX6_ones 5 = .ok (.bipush 10, 2) := by decide +kernel
theorem dX6_ones_7 : decode cX6_ones 7 = .ok (.if_icmp .ge 17, 3) := by decide +kernel
theorem dX6_ones_10 : decode cX6_ones 10 = .ok (.iload_n 1, 1) := by decide +kernel
theorem dX6_ones_11 : decode cX6_ones 11 = .ok (.iload_n 0, 1) := by decide +kernel
theorem dX6_ones_12 : decode cX6_ones 12 = .ok (.iload_n 2, 1) := by decide +kernel
theorem dX6_ones_13 : decode cX6_ones 13 = .ok (.ishr, 1) := by decide +kernel
theorem dX6_ones_14 : decode cX6_ones 14 = .ok (.iconst 1, 1) := by decide +kernel
theorem dX6_ones_15 : decode cX6_ones 15 = .ok (.iand, 1) := by decide +kernel
theorem dX6_ones_16 : decode cX6_ones 16 = .ok (.iadd, 1) := by decide +kernel
theorem dX6_ones_17 : decode cX6_ones 17 = .ok (.istore_n 1, 1) := by decide +kernel
theorem dX6_ones_18 : decode cX6_ones 18 = .ok (.iinc 2 1, 3) := by decide +kernel
theorem dX6_ones_21 : decode cX6_ones 21 = .ok (.goto (-17), 3) := by decide +kernel
theorem dX6_ones_24 : decode cX6_ones 24 = .ok (.iload_n 1, 1) := by decide +kernel
theorem dX6_ones_25 : decode cX6_ones 25 = .ok (.ireturn, 1) := by decide +kernel
set_option maxRecDepth 20000 in
theorem ggX6_letter_X6_within : GoodIn wsX6_letter wsX6_within := goodIn_r _ [6] (by decide +kernel) (by decide +kernel)
set_option maxRecDepth 20000 in
theorem gX6_letter_X6_within : GoodIn wsX6_letter (va_wsS RX6 32 yX6_within wsX6_within) := goodIn_app (goodIn_of _ (by decide +kernel)) ggX6_letter_X6_within
theorem dX6_letter_0 : decode cX6_letter 0 = .ok (.iload_n 1, 1) := by decide +kernel
theorem dX6_letter_1 : decode cX6_letter 1 = .ok (.bipush 32, 2) := by decide +kernel
theorem dX6_letter_3 : decode cX6_letter 3 = .ok (.bipush 126, 2) := by decide +kernel
theorem dX6_letter_5 : decode cX6_letter 5 = .ok (.invokestatic 32, 3) := by decide +kernel
theorem dX6_letter_8 : decode cX6_letter 8 = .ok (.ifCond .ne 7, 3) := by decide +kernel
theorem dX6_letter_11 : decode cX6_letter 11 = .ok (.sipush (-1002), 3) := by decide +kernel
theorem dX6_letter_14 : decode cX6_letter 14 = .ok (.ireturn, 1) := by decide +kernel
theorem dX6_letter_15 : decode cX6_letter 15 = .ok (.aload_n 0, 1) := by decide +kernel
theorem dX6_letter_16 : decode cX6_letter 16 = .ok (.getfield 36, 3) := by decide +kernel
theorem dX6_letter_19 : decode cX6_letter 19 = .ok (.bipush 56, 2) := by decide +kernel
theorem dX6_letter_21 : decode cX6_letter 21 = .ok (.if_icmp .ne 7, 3) := by decide +kernel
theorem dX6_letter_24 : decode cX6_letter 24 = .ok (.sipush (-1004), 3) := by decide +kernel
theorem dX6_letter_27 : decode cX6_letter 27 = .ok (.ireturn, 1) := by decide +kernel
theorem dX6_letter_28 : decode cX6_letter 28 = .ok (.aload_n 0, 1) := by decide +kernel
theorem dX6_letter_29 : decode cX6_letter 29 = .ok (.getfield 7, 3) := by decide +kernel
theorem dX6_letter_32 : decode cX6_letter 32 = .ok (.aload_n 0, 1) := by decide +kernel
theorem dX6_letter_33 : decode cX6_letter 33 = .ok (.getfield 36, 3) := by decide +kernel
theorem dX6_letter_36 : decode cX6_letter 36 = .ok (.iload_n 1, 1) := by decide +kernel
theorem dX6_letter_37 : decode cX6_letter 37 = .ok (.iastore, 1) := by decide +kernel
theorem dX6_letter_38 : decode cX6_letter 38 = .ok (.aload_n 0, 1) := by decide +kernel
theorem dX6_letter_39 : decode cX6_letter 39 = .ok (.dup, 1) := by decide +kernel
theorem dX6_letter_40 : decode cX6_letter 40 = .ok (.getfield 36, 3) := by decide +kernel
theorem dX6_letter_43 : decode cX6_letter 43 = .ok (.iconst 1, 1) := by decide +kernel
theorem dX6_letter_44 : decode cX6_letter 44 = .ok (.iadd, 1) := by decide +kernel
theorem dX6_letter_45 : decode cX6_letter 45 = .ok (.putfield 36, 3) := by decide +kernel
theorem dX6_letter_48 : decode cX6_letter 48 = .ok (.aload_n 0, 1) := by decide +kernel
theorem dX6_letter_49 : decode cX6_letter 49 = .ok (.getfield 36, 3) := by decide +kernel
theorem dX6_letter_52 : decode cX6_letter 52 = .ok (.ireturn, 1) := by decide +kernel
theorem dX6_blank_0 : decode cX6_blank 0 = .ok (.aload_n 0, 1) := by decide +kernel
theorem dX6_blank_1 : decode cX6_blank 1 = .ok (.getfield 36, 3) := by decide +kernel
theorem dX6_blank_4 : decode cX6_blank 4 = .ok (.istore_n 1, 1) := by decide +kernel
theorem dX6_blank_5 : decode cX6_blank 5 = .ok (.aload_n 0, 1) := by decide +kernel
theorem dX6_blank_6 : decode cX6_blank 6 = .ok (.iconst 0, 1) := by decide +kernel
