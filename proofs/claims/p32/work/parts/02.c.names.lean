set_option maxRecDepth 20000 in
theorem gX8_init_X1_init_n27 : GoodIn wsX8_init (wsX1_init) := ggX8_init_X1_init
set_option maxRecDepth 20000 in
theorem ggX8_init_X4_init : GoodIn wsX8_init wsX4_init := goodIn_r _ [47, 48, 2, 3, 49, 50, 51, 52, 73, 74, 75, 76, 77] (by decide +kernel) (by decide +kernel)
set_option maxRecDepth 20000 in
theorem gX8_init_X4_init_n34 : GoodIn wsX8_init (wsX4_init) := ggX8_init_X4_init
theorem dX8_init_0 : decode cX8_init 0 = .ok (.aload_n 0, 1) := by decide +kernel
theorem dX8_init_1 : decode cX8_init 1 = .ok (.invokespecial 3, 3) := by decide +kernel
theorem dX8_init_4 : decode cX8_init 4 = .ok (.aload_n 0, 1) := by decide +kernel
theorem dX8_init_5 : decode cX8_init 5 = .ok (.new 9, 3) := by decide +kernel
theorem dX8_init_8 : decode cX8_init 8 = .ok (.dup, 1) := by decide +kernel
theorem dX8_init_9 : decode cX8_init 9 = .ok (.invokespecial 11, 3) := by decide +kernel
theorem dX8_init_12 : decode cX8_init 12 = .ok (.putfield 12, 3) := by decide +kernel
theorem dX8_init_15 : decode cX8_init 15 = .ok (.aload_n 0, 1) := by decide +kernel
theorem dX8_init_16 : decode cX8_init 16 = .ok (.new 18, 3) := by decide +kernel
theorem dX8_init_19 : decode cX8_init 19 = .ok (.dup, 1) := by decide +kernel
theorem dX8_init_20 : decode cX8_init 20 = .ok (.invokespecial 20, 3) := by decide +kernel
theorem dX8_init_23 : decode cX8_init 23 = .ok (.putfield 21, 3) := by decide +kernel
theorem dX8_init_26 : decode cX8_init 26 = .ok (.aload_n 0, 1) := by decide +kernel
theorem dX8_init_27 : decode cX8_init 27 = .ok (.new 25, 3) := by decide +kernel
theorem dX8_init_30 : decode cX8_init 30 = .ok (.dup, 1) := by decide +kernel
theorem dX8_init_31 : decode cX8_init 31 = .ok (.invokespecial 27, 3) := by decide +kernel
theorem dX8_init_34 : decode cX8_init 34 = .ok (.putfield 28, 3) := by decide +kernel
theorem dX8_init_37 : decode cX8_init 37 = .ok (.aload_n 0, 1) := by decide +kernel
theorem dX8_init_38 : decode cX8_init 38 = .ok (.new 32, 3) := by decide +kernel
theorem dX8_init_41 : decode cX8_init 41 = .ok (.dup, 1) := by decide +kernel
theorem dX8_init_42 : decode cX8_init 42 = .ok (.invokespecial 34, 3) := by decide +kernel
theorem dX8_init_45 : decode cX8_init 45 = .ok (.putfield 35, 3) := by decide +kernel
theorem dX8_init_48 : decode cX8_init 48 = .ok (.return_, 1) := by decide +kernel
set_option maxRecDepth 20000 in
theorem ggX8_concentration_X1_concentration : GoodIn wsX8_concentration wsX1_concentration := goodIn_r _ [7, 8, 9, 10, 11, 12, 13, 14, 15, 16, 17, 18, 19, 20, 31, 32, 33, 34, 35, 36, 37, 38] (by decide +kernel) (by decide +kernel)
set_option maxRecDepth 20000 in
theorem gX8_concentration_X1_concentration : GoodIn wsX8_concentration (wsV RX8 72 RX1 yX1_concentration wsX1_concentration) := goodIn_app (goodIn_of _ (by decide +kernel)) ggX8_concentration_X1_concentration
theorem dX8_concentration_0 : decode cX8_concentration 0 = .ok (.aload_n 0, 1) := by decide +kernel
theorem dX8_concentration_1 : decode cX8_concentration 1 = .ok (.getfield 28, 3) := by decide +kernel
theorem dX8_concentration_4 : decode cX8_concentration 4 = .ok (.aload_n 0, 1) := by decide +kernel
theorem dX8_concentration_5 : decode cX8_concentration 5 = .ok (.getfield 12, 3) := by decide +kernel
theorem dX8_concentration_8 : decode cX8_concentration 8 = .ok (.invokevirtual 72, 3) := by decide +kernel
theorem dX8_concentration_11 : decode cX8_concentration 11 = .ok (.lreturn, 1) := by decide +kernel
set_option maxRecDepth 20000 in
theorem ggX8_isSafe_X8_concentration : GoodIn wsX8_isSafe wsX8_concentration := goodIn_r _ [6, 7, 1, 8, 9, 10, 11, 12, 13, 14, 15, 16, 17, 18, 19, 20, 21, 22, 23, 24, 25, 27, 28, 29, 30, 31, 32, 33, 34, 35, 36, 37, 38, 39, 40, 41, 42, 43, 44] (by decide +kernel) (by decide +kernel)
set_option maxRecDepth 20000 in
theorem gX8_isSafe_X8_concentration : GoodIn wsX8_isSafe (wsV RX8 76 RX8 yX8_concentration wsX8_concentration) := goodIn_app (goodIn_of _ (by decide +kernel)) ggX8_isSafe_X8_concentration
set_option maxRecDepth 20000 in
theorem ggX8_isSafe_X6_value : GoodIn wsX8_isSafe wsX6_value := goodIn_r _ [19, 20, 21, 22, 23, 44] (by decide +kernel) (by decide +kernel)
set_option maxRecDepth 20000 in
theorem gX8_isSafe_X6_value : GoodIn wsX8_isSafe (wsV RX8 79 RX6 yX6_value wsX6_value) := goodIn_app (goodIn_of _ (by decide +kernel)) ggX8_isSafe_X6_value
theorem dX8_isSafe_0 : decode cX8_isSafe 0 = .ok (.aload_n 0, 1) := by decide +kernel
theorem dX8_isSafe_1 : decode cX8_isSafe 1 = .ok (.invokevirtual 76, 3) := by decide +kernel
theorem dX8_isSafe_4 : decode cX8_isSafe 4 = .ok (.aload_n 0, 1) := by decide +kernel
theorem dX8_isSafe_5 : decode cX8_isSafe 5 = .ok (.getfield 12, 3) := by decide +kernel
theorem dX8_isSafe_8 : decode cX8_isSafe 8 = .ok (.bipush 8, 2) := by decide +kernel
theorem dX8_isSafe_10 : decode cX8_isSafe 10 = .ok (.invokevirtual 79, 3) := by decide +kernel
theorem dX8_isSafe_13 : decode cX8_isSafe 13 = .ok (.i2l, 1) := by decide +kernel
theorem dX8_isSafe_14 : decode cX8_isSafe 14 = .ok (.lcmp, 1) := by decide +kernel
theorem dX8_isSafe_15 : decode cX8_isSafe 15 = .ok (.ifCond .ge 7, 3) := by decide +kernel
theorem dX8_isSafe_18 : decode cX8_isSafe 18 = .ok (.iconst 1, 1) := by decide +kernel
theorem dX8_isSafe_19 : decode cX8_isSafe 19 = .ok (.goto 4, 3) := by decide +kernel
theorem dX8_isSafe_22 : decode cX8_isSafe 22 = .ok (.iconst 0, 1) := by decide +kernel
theorem dX8_isSafe_23 : decode cX8_isSafe 23 = .ok (.ireturn, 1) := by decide +kernel
set_option maxRecDepth 20000 in
theorem ggX8_letPass_X8_letMinutePass : GoodIn wsX8_letPass wsX8_letMinutePass := goodIn_r _ [5, 6, 7, 8, 9, 10, 11, 12, 13, 14, 15, 16, 17, 18, 19, 20, 21, 22, 23, 24, 25, 26, 27, 28, 29, 30, 31, 32, 33, 34, 35, 36, 37, 38, 39, 40, 41, 42, 43, 44, 45, 46, 47, 48, 49, 50, 51, 52, 53, 54, 55, 56, 57, 58, 59, 60, 61, 62, 63, 64, 65, 66, 67, 68, 69, 70, 71, 72, 73, 74, 75, 76, 77, 78, 79, 80, 81, 82, 83, 84, 85, 86, 87, 88, 89, 90, 91, 92, 93, 94, 95, 96, 97, 98, 99, 100, 101, 102, 103, 104, 105, 106, 107, 108, 109, 110, 111, 112, 113, 114, 115, 116, 117, 118, 119, 120, 121, 122, 123, 124, 125, 126, 127, 128, 129, 130, 131, 132, 133, 134, 135, 136, 137, 138, 139, 140, 141, 142, 143, 144, 145, 146, 147, 148, 149, 150] (by decide +kernel) (by decide +kernel)
set_option maxRecDepth 20000 in
theorem gX8_letPass_X8_letMinutePass : GoodIn wsX8_letPass (wsV RX8 83 RX8 yX8_letMinutePass wsX8_letMinutePass) := goodIn_app (goodIn_of _ (by decide +kernel)) ggX8_letPass_X8_letMinutePass
theorem dX8_letPass_0 : decode cX8_letPass 0 = .ok (.iconst 0, 1) := by decide +kernel
theorem dX8_letPass_1 : decode cX8_letPass 1 = .ok (.istore_n 2, 1) := by decide +kernel
theorem dX8_letPass_2 : decode cX8_letPass 2 = .ok (.iload_n 2, 1) := by decide +kernel
theorem dX8_letPass_3 : decode cX8_letPass 3 = .ok (.iload_n 1, 1) := by decide +kernel
theorem dX8_letPass_4 : decode cX8_letPass 4 = .ok (.if_icmp .ge 13, 3) := by decide +kernel
theorem dX8_letPass_7 : decode cX8_letPass 7 = .ok (.aload_n 0, 1) := by decide +kernel
theorem dX8_letPass_8 : decode cX8_letPass 8 = .ok (.invokevirtual 83, 3) := by decide +kernel
theorem dX8_letPass_11 : decode cX8_letPass 11 = .ok (.iinc 2 1, 3) := by decide +kernel
theorem dX8_letPass_14 : decode cX8_letPass 14 = .ok (.goto (-12), 3) := by decide +kernel
theorem dX8_letPass_17 : decode cX8_letPass 17 = .ok (.return_, 1) := by decide +kernel
set_option maxRecDepth 20000 in
theorem ggX8_letMinutePass_X6_value : GoodIn wsX8_letMinutePass wsX6_value := goodIn_r _ [12, 13, 14, 15, 16, 134] (by decide +kernel) (by decide +kernel)
set_option maxRecDepth 20000 in
theorem gX8_letMinutePass_X6_value : GoodIn wsX8_letMinutePass (wsV RX8 79 RX6 yX6_value wsX6_value) := goodIn_app (goodIn_of _ (by decide +kernel)) ggX8_letMinutePass_X6_value
set_option maxRecDepth 20000 in
theorem ggX8_letMinutePass_X2_letGoOff : GoodIn wsX8_letMinutePass wsX2_letGoOff := goodIn_r _ [21, 22, 23, 24, 25, 26, 27, 28, 29, 30, 31, 32, 33, 34, 35, 36, 37, 38, 39, 15, 40, 41, 42, 43, 44, 45, 46, 47, 48, 135, 136, 137, 138, 139, 140] (by decide +kernel) (by decide +kernel)
set_option maxRecDepth 20000 in
theorem gX8_letMinutePass_X2_letGoOff : GoodIn wsX8_letMinutePass (wsV RX8 89 RX2 yX2_letGoOff wsX2_letGoOff) := goodIn_app (goodIn_of _ (by decide +kernel)) ggX8_letMinutePass_X2_letGoOff
set_option maxRecDepth 20000 in
theorem ggX8_letMinutePass_X4_outsideNow : GoodIn wsX8_letMinutePass wsX4_outsideNow := goodIn_r _ [53, 54, 55, 56, 57, 58, 52, 59, 60, 14, 15, 16, 141, 142, 143, 144, 145] (by decide +kernel) (by decide +kernel)
set_option maxRecDepth 20000 in
theorem gX8_letMinutePass_X4_outsideNow : GoodIn wsX8_letMinutePass (wsV RX8 93 RX4 yX4_outsideNow wsX4_outsideNow) := goodIn_app (goodIn_of _ (by decide +kernel)) ggX8_letMinutePass_X4_outsideNow
set_option maxRecDepth 20000 in
theorem ggX8_letMinutePass_X1_letMinutePass : GoodIn wsX8_letMinutePass wsX1_letMinutePass := goodIn_r _ [65, 66, 67, 68, 69, 70, 71, 64, 72, 73, 74, 75, 76, 33, 77, 78, 47, 48, 79, 9, 10, 11, 12, 13, 14, 15, 16, 39, 40, 80, 81, 82, 83, 84, 85, 86, 87, 88, 89, 90, 91, 92, 93, 94, 95, 96, 97, 98, 99, 100, 101, 102, 103, 104, 105, 106, 107, 127, 128, 129, 130, 131, 132, 133, 134] (by decide +kernel) (by decide +kernel)
set_option maxRecDepth 20000 in
theorem gX8_letMinutePass_X1_letMinutePass : GoodIn wsX8_letMinutePass (wsV RX8 97 RX1 yX1_letMinutePass wsX1_letMinutePass) := goodIn_app (goodIn_of _ (by decide +kernel)) ggX8_letMinutePass_X1_letMinutePass
set_option maxRecDepth 20000 in
theorem ggX8_letMinutePass_X4_letMinutePass : GoodIn wsX8_letMinutePass wsX4_letMinutePass := goodIn_r _ [111, 112, 113, 114, 115, 52, 116, 141, 142, 143, 144, 145] (by decide +kernel) (by decide +kernel)
set_option maxRecDepth 20000 in
theorem gX8_letMinutePass_X4_letMinutePass : GoodIn wsX8_letMinutePass (wsV RX8 100 RX4 yX4_letMinutePass wsX4_letMinutePass) := goodIn_app (goodIn_of _ (by decide +kernel)) ggX8_letMinutePass_X4_letMinutePass
theorem dX8_letMinutePass_0 : decode cX8_letMinutePass 0 = .ok (.aload_n 0, 1) := by decide +kernel
theorem dX8_letMinutePass_1 : decode cX8_letMinutePass 1 = .ok (.getfield 21, 3) := by decide +kernel
theorem dX8_letMinutePass_4 : decode cX8_letMinutePass 4 = .ok (.aload_n 0, 1) := by decide +kernel
theorem dX8_letMinutePass_5 : decode cX8_letMinutePass 5 = .ok (.getfield 28, 3) := by decide +kernel
theorem dX8_letMinutePass_8 : decode cX8_letMinutePass 8 = .ok (.getfield 86, 3) := by decide +kernel
theorem dX8_letMinutePass_11 : decode cX8_letMinutePass 11 = .ok (.aload_n 0, 1) := by decide +kernel
theorem dX8_letMinutePass_12 : decode cX8_letMinutePass 12 = .ok (.getfield 12, 3) := by decide +kernel
theorem dX8_letMinutePass_15 : decode cX8_letMinutePass 15 = .ok (.iconst 0, 1) := by decide +kernel
theorem dX8_letMinutePass_16 : decode cX8_letMinutePass 16 = .ok (.invokevirtual 79, 3) := by decide +kernel
theorem dX8_letMinutePass_19 : decode cX8_letMinutePass 19 = .ok (.invokevirtual 89, 3) := by decide +kernel
theorem dX8_letMinutePass_22 : decode cX8_letMinutePass 22 = .ok (.istore_n 1, 1) := by decide +kernel
theorem dX8_letMinutePass_23 : decode cX8_letMinutePass 23 = .ok (.aload_n 0, 1) := by decide +kernel
theorem dX8_letMinutePass_24 : decode cX8_letMinutePass 24 = .ok (.dup, 1) := by decide +kernel
theorem dX8_letMinutePass_25 : decode cX8_letMinutePass 25 = .ok (.getfield 63, 3) := by decide +kernel
theorem dX8_letMinutePass_28 : decode cX8_letMinutePass 28 = .ok (.iload_n 1, 1) := by decide +kernel
theorem dX8_letMinutePass_29 : decode cX8_letMinutePass 29 = .ok (.i2l, 1) := by decide +kernel
theorem dX8_letMinutePass_30 : decode cX8_letMinutePass 30 = .ok (.ladd, 1) := by decide +kernel
theorem dX8_letMinutePass_31 : decode cX8_letMinutePass 31 = .ok (.putfield 63, 3) := by decide +kernel
theorem dX8_letMinutePass_34 : decode cX8_letMinutePass 34 = .ok (.aload_n 0, 1) := by decide +kernel
theorem dX8_letMinutePass_35 : decode cX8_letMinutePass 35 = .ok (.getfield 28, 3) := by decide +kernel
theorem dX8_letMinutePass_38 : decode cX8_letMinutePass 38 = .ok (.iload_n 1, 1) := by decide +kernel
theorem dX8_letMinutePass_39 : decode cX8_letMinutePass 39 = .ok (.aload_n 0, 1) := by decide +kernel
theorem dX8_letMinutePass_40 : decode cX8_letMinutePass 40 = .ok (.getfield 35, 3) := by decide +kernel
theorem dX8_letMinutePass_43 : decode cX8_letMinutePass 43 = .ok (.invokevirtual 93, 3) := by decide +kernel
theorem dX8_letMinutePass_46 : decode cX8_letMinutePass 46 = .ok (.aload_n 0, 1) := by decide +kernel
theorem dX8_letMinutePass_47 : decode cX8_letMinutePass 47 = .ok (.getfield 12, 3) := by decide +kernel
theorem dX8_letMinutePass_50 : decode cX8_letMinutePass 50 = .ok (.invokevirtual 97, 3) := by decide +kernel
theorem dX8_letMinutePass_53 : decode cX8_letMinutePass 53 = .ok (.aload_n 0, 1) := by decide +kernel
theorem dX8_letMinutePass_54 : decode cX8_letMinutePass 54 = .ok (.getfield 35, 3) := by decide +kernel
theorem dX8_letMinutePass_57 : decode cX8_letMinutePass 57 = .ok (.invokevirtual 100, 3) := by decide +kernel
theorem dX8_letMinutePass_60 : decode cX8_letMinutePass 60 = .ok (.aload_n 0, 1) := by decide +kernel
theorem dX8_letMinutePass_61 : decode cX8_letMinutePass 61 = .ok (.dup, 1) := by decide +kernel
theorem dX8_letMinutePass_62 : decode cX8_letMinutePass 62 = .ok (.getfield 52, 3) := by decide +kernel
theorem dX8_letMinutePass_65 : decode cX8_letMinutePass 65 = .ok (.iconst 1, 1) := by decide +kernel
theorem dX8_letMinutePass_66 : decode cX8_letMinutePass 66 = .ok (.iadd, 1) := by decide +kernel
theorem dX8_letMinutePass_67 : decode cX8_letMinutePass 67 = .ok (.putfield 52, 3) := by decide +kernel
theorem dX8_letMinutePass_70 : decode cX8_letMinutePass 70 = .ok (.return_, 1) := by decide +kernel
set_option maxRecDepth 20000 in
theorem ggX9_init_X8_init : GoodIn wsX9_init wsX8_init := goodIn_r _ [23, 24, 2, 3, 25, 26, 27, 28, 29, 30, 31, 32, 33, 34, 35, 36, 37, 38, 39, 40, 41, 42, 43, 44, 45, 46, 47, 48, 49, 50, 51, 52, 53, 54, 55, 56, 57, 58, 59, 60, 61, 62, 63, 64, 65, 66, 67, 68, 69, 70, 71, 72, 73, 115, 88, 89, 90, 91, 92, 93, 94, 95, 96, 97, 116, 117, 118, 119, 120, 121, 122, 123, 124, 125, 126, 127, 128, 129, 130, 131, 132, 133] (by decide +kernel) (by decide +kernel)
set_option maxRecDepth 20000 in
theorem gX9_init_X8_init_n9 : GoodIn wsX9_init (wsX8_init) := ggX9_init_X8_init
set_option maxRecDepth 20000 in
theorem ggX9_init_X7_init : GoodIn wsX9_init wsX7_init := goodIn_r _ [75, 76, 2, 3, 77, 5, 6, 78, 22, 23, 24, 25, 26, 27, 28, 29, 30, 31, 32, 33, 34, 35, 36, 37, 38, 39, 40, 41, 42, 43, 44, 45, 46, 47, 48, 49, 50, 51, 52, 53, 54, 55, 56, 57, 58, 59, 60, 61, 62, 63, 64, 65, 66, 67, 68, 69, 70, 71, 72, 73, 88, 89, 90, 91, 92, 93, 94, 95, 96, 97, 104, 105, 115, 116, 117, 118, 119, 120, 121, 122, 123, 124, 125, 126, 127, 128, 129, 130, 131, 132, 133] (by decide +kernel) (by decide +kernel)
set_option maxRecDepth 20000 in
theorem gX9_init_X7_init_n21 : GoodIn wsX9_init (wsX7_init) := ggX9_init_X7_init
set_option maxRecDepth 20000 in
theorem ggX9_init_X3_init : GoodIn wsX9_init wsX3_init := goodIn_r _ [80, 81, 2, 3, 70, 82, 106, 107] (by decide +kernel) (by decide +kernel)
set_option maxRecDepth 20000 in
theorem gX9_init_X3_init_n31 : GoodIn wsX9_init (wsX3_init) := ggX9_init_X3_init
set_option maxRecDepth 20000 in
theorem ggX9_init_X5_init : GoodIn wsX9_init wsX5_init := goodIn_r _ [84, 85, 2, 3, 70, 86, 87, 108, 109, 110, 111, 112, 113, 114] (by decide +kernel) (by decide +kernel)
set_option maxRecDepth 20000 in
theorem gX9_init_X5_init_n38 : GoodIn wsX9_init (wsX5_init) := ggX9_init_X5_init
theorem dX9_init_0 : decode cX9_init 0 = .ok (.aload_n 0, 1) := by decide +kernel
theorem dX9_init_1 : decode cX9_init 1 = .ok (.invokespecial 1, 3) := by decide +kernel
theorem dX9_init_4 : decode cX9_init 4 = .ok (.aload_n 0, 1) := by decide +kernel
theorem dX9_init_5 : decode cX9_init 5 = .ok (.new 7, 3) := by decide +kernel
theorem dX9_init_8 : decode cX9_init 8 = .ok (.dup, 1) := by decide +kernel
theorem dX9_init_9 : decode cX9_init 9 = .ok (.invokespecial 9, 3) := by decide +kernel
theorem dX9_init_12 : decode cX9_init 12 = .ok (.putfield 10, 3) := by decide +kernel
theorem dX9_init_15 : decode cX9_init 15 = .ok (.aload_n 0, 1) := by decide +kernel
theorem dX9_init_16 : decode cX9_init 16 = .ok (.new 7, 3) := by decide +kernel
theorem dX9_init_19 : decode cX9_init 19 = .ok (.dup, 1) := by decide +kernel
theorem dX9_init_20 : decode cX9_init 20 = .ok (.invokespecial 9, 3) := by decide +kernel
theorem dX9_init_23 : decode cX9_init 23 = .ok (.putfield 16, 3) := by decide +kernel
theorem dX9_init_26 : decode cX9_init 26 = .ok (.aload_n 0, 1) := by decide +kernel
theorem dX9_init_27 : decode cX9_init 27 = .ok (.new 19, 3) := by decide +kernel
theorem dX9_init_30 : decode cX9_init 30 = .ok (.dup, 1) := by decide +kernel
theorem dX9_init_31 : decode cX9_init 31 = .ok (.invokespecial 21, 3) := by decide +kernel
theorem dX9_init_34 : decode cX9_init 34 = .ok (.putfield 22, 3) := by decide +kernel
theorem dX9_init_37 : decode cX9_init 37 = .ok (.aload_n 0, 1) := by decide +kernel
theorem dX9_init_38 : decode cX9_init 38 = .ok (.new 19, 3) := by decide +kernel
theorem dX9_init_41 : decode cX9_init 41 = .ok (.dup, 1) := by decide +kernel
theorem dX9_init_42 : decode cX9_init 42 = .ok (.invokespecial 21, 3) := by decide +kernel
theorem dX9_init_45 : decode cX9_init 45 = .ok (.putfield 26, 3) := by decide +kernel
theorem dX9_init_48 : decode cX9_init 48 = .ok (.aload_n 0, 1) := by decide +kernel
theorem dX9_init_49 : decode cX9_init 49 = .ok (.new 29, 3) := by decide +kernel
theorem dX9_init_52 : decode cX9_init 52 = .ok (.dup, 1) := by decide +kernel
theorem dX9_init_53 : decode cX9_init 53 = .ok (.invokespecial 31, 3) := by decide +kernel
theorem dX9_init_56 : decode cX9_init 56 = .ok (.putfield 32, 3) := by decide +kernel
theorem dX9_init_59 : decode cX9_init 59 = .ok (.aload_n 0, 1) := by decide +kernel
theorem dX9_init_60 : decode cX9_init 60 = .ok (.new 36, 3) := by decide +kernel
theorem dX9_init_63 : decode cX9_init 63 = .ok (.dup, 1) := by decide +kernel
theorem dX9_init_64 : decode cX9_init 64 = .ok (.invokespecial 38, 3) := by decide +kernel
theorem dX9_init_67 : decode cX9_init 67 = .ok (.putfield 39, 3) := by decide +kernel
theorem dX9_init_70 : decode cX9_init 70 = .ok (.return_, 1) := by decide +kernel
set_option maxRecDepth 20000 in
theorem ggX9_load_X9_within : GoodIn wsX9_load wsX9_within := goodIn_r _ [12] (by decide +kernel) (by decide +kernel)
set_option maxRecDepth 20000 in
theorem gX9_load_X9_within : GoodIn wsX9_load (va_wsS RX9 43 yX9_within wsX9_within) := goodIn_app (goodIn_of _ (by decide +kernel)) ggX9_load_X9_within
set_option maxRecDepth 20000 in
theorem ggX9_load_X2_append : GoodIn wsX9_load wsX2_append := goodIn_r _ [17, 18, 19, 20, 21, 22, 23, 40, 41, 49, 50, 51, 52] (by decide +kernel) (by decide +kernel)
set_option maxRecDepth 20000 in
theorem gX9_load_X2_append : GoodIn wsX9_load (wsV RX9 69 RX2 yX2_append wsX2_append) := goodIn_app (goodIn_of _ (by decide +kernel)) ggX9_load_X2_append
theorem dX9_load_0 : decode cX9_load 0 = .ok (.iload_n 1, 1) := by decide +kernel
theorem dX9_load_1 : decode cX9_load 1 = .ok (.iconst 1, 1) := by decide +kernel
theorem dX9_load_2 : decode cX9_load 2 = .ok (.bipush 100, 2) := by decide +kernel
theorem dX9_load_4 : decode cX9_load 4 = .ok (.invokestatic 43, 3) := by decide +kernel
theorem dX9_load_7 : decode cX9_load 7 = .ok (.ifCond .eq 23, 3) := by decide +kernel
theorem dX9_load_10 : decode cX9_load 10 = .ok (.iload_n 2, 1) := by decide +kernel
theorem dX9_load_11 : decode cX9_load 11 = .ok (.iconst 0, 1) := by decide +kernel
theorem dX9_load_12 : decode cX9_load 12 = .ok (.ldc 47, 2) := by decide +kernel
theorem dX9_load_14 : decode cX9_load 14 = .ok (.invokestatic 43, 3) := by decide +kernel
theorem dX9_load_17 : decode cX9_load 17 = .ok (.ifCond .eq 13, 3) := by decide +kernel
theorem dX9_load_20 : decode cX9_load 20 = .ok (.iload_n 3, 1) := by decide +kernel
theorem dX9_load_21 : decode cX9_load 21 = .ok (.iconst 0, 1) := by decide +kernel
theorem dX9_load_22 : decode cX9_load 22 = .ok (.ldc 48, 2) := by decide +kernel
theorem dX9_load_24 : decode cX9_load 24 = .ok (.invokestatic 43, 3) := by decide +kernel
theorem dX9_load_27 : decode cX9_load 27 = .ok (.ifCond .ne 6, 3) := by decide +kernel
theorem dX9_load_30 : decode cX9_load 30 = .ok (.bipush (-2), 2) := by decide +kernel
theorem dX9_load_32 : decode cX9_load 32 = .ok (.ireturn, 1) := by decide +kernel
theorem dX9_load_33 : decode cX9_load 33 = .ok (.aload_n 0, 1) := by decide +kernel
theorem dX9_load_34 : decode cX9_load 34 = .ok (.getfield 10, 3) := by decide +kernel
theorem dX9_load_37 : decode cX9_load 37 = .ok (.getfield 49, 3) := by decide +kernel
theorem dX9_load_40 : decode cX9_load 40 = .ok (.getfield 53, 3) := by decide +kernel
theorem dX9_load_43 : decode cX9_load 43 = .ok (.bipush 10, 2) := by decide +kernel
theorem dX9_load_45 : decode cX9_load 45 = .ok (.if_icmp .lt 6, 3) := by decide +kernel
theorem dX9_load_48 : decode cX9_load 48 = .ok (.bipush (-4), 2) := by decide +kernel
theorem dX9_load_50 : decode cX9_load 50 = .ok (.ireturn, 1) := by decide +kernel
theorem dX9_load_51 : decode cX9_load 51 = .ok (.aload_n 0, 1) := by decide +kernel
theorem dX9_load_52 : decode cX9_load 52 = .ok (.getfield 10, 3) := by decide +kernel
theorem dX9_load_55 : decode cX9_load 55 = .ok (.getfield 59, 3) := by decide +kernel
theorem dX9_load_58 : decode cX9_load 58 = .ok (.getfield 63, 3) := by decide +kernel
theorem dX9_load_61 : decode cX9_load 61 = .ok (.ifCond .ne 6, 3) := by decide +kernel
theorem dX9_load_64 : decode cX9_load 64 = .ok (.bipush (-5), 2) := by decide +kernel
theorem dX9_load_66 : decode cX9_load 66 = .ok (.ireturn, 1) := by decide +kernel
theorem dX9_load_67 : decode cX9_load 67 = .ok (.aload_n 0, 1) := by decide +kernel
theorem dX9_load_68 : decode cX9_load 68 = .ok (.getfield 10, 3) := by decide +kernel
theorem dX9_load_71 : decode cX9_load 71 = .ok (.getfield 49, 3) := by decide +kernel
theorem dX9_load_74 : decode cX9_load 74 = .ok (.iload_n 1, 1) := by decide +kernel
theorem dX9_load_75 : decode cX9_load 75 = .ok (.iload_n 2, 1) := by decide +kernel
theorem dX9_load_76 : decode cX9_load 76 = .ok (.iload_n 3, 1) := by decide +kernel
theorem dX9_load_77 : decode cX9_load 77 = .ok (.invokevirtual 69, 3) := by decide +kernel
theorem dX9_load_80 : decode cX9_load 80 = .ok (.aload_n 0, 1) := by decide +kernel
theorem dX9_load_81 : decode cX9_load 81 = .ok (.getfield 10, 3) := by decide +kernel
theorem dX9_load_84 : decode cX9_load 84 = .ok (.dup, 1) := by decide +kernel
theorem dX9_load_85 : decode cX9_load 85 = .ok (.getfield 73, 3) := by decide +kernel
theorem dX9_load_88 : decode cX9_load 88 = .ok (.iload_n 3, 1) := by decide +kernel
theorem dX9_load_89 : decode cX9_load 89 = .ok (.i2l, 1) := by decide +kernel
theorem dX9_load_90 : decode cX9_load 90 = .ok (.ladd, 1) := by decide +kernel
theorem dX9_load_91 : decode cX9_load 91 = .ok (.putfield 73, 3) := by decide +kernel
theorem dX9_load_94 : decode cX9_load 94 = .ok (.aload_n 0, 1) := by decide +kernel
theorem dX9_load_95 : decode cX9_load 95 = .ok (.getfield 10, 3) := by decide +kernel
theorem dX9_load_98 : decode cX9_load 98 = .ok (.getfield 49, 3) := by decide +kernel
theorem dX9_load_101 : decode cX9_load 101 = .ok (.getfield 53, 3) := by decide +kernel
theorem dX9_load_104 : decode cX9_load 104 = .ok (.iconst 1, 1) := by decide +kernel
theorem dX9_load_105 : decode cX9_load 105 = .ok (.isub, 1) := by decide +kernel
theorem dX9_load_106 : decode cX9_load 106 = .ok (.ireturn, 1) := by decide +kernel
set_option maxRecDepth 20000 in
theorem ggX9_unload_X2_boxAt : GoodIn wsX9_unload wsX2_boxAt := goodIn_r _ [11, 12, 13, 14, 15, 16, 52, 53] (by decide +kernel) (by decide +kernel)
set_option maxRecDepth 20000 in
theorem gX9_unload_X2_boxAt : GoodIn wsX9_unload (wsV RX9 77 RX2 yX2_boxAt wsX2_boxAt) := goodIn_app (goodIn_of _ (by decide +kernel)) ggX9_unload_X2_boxAt
set_option maxRecDepth 20000 in
theorem ggX9_unload_X2_takeOut : GoodIn wsX9_unload wsX2_takeOut := goodIn_r _ [20, 12, 14, 15, 16, 21, 22, 23, 10, 24, 13, 52, 53] (by decide +kernel) (by decide +kernel)
set_option maxRecDepth 20000 in
theorem gX9_unload_X2_takeOut : GoodIn wsX9_unload (wsV RX9 86 RX2 yX2_takeOut wsX2_takeOut) := goodIn_app (goodIn_of _ (by decide +kernel)) ggX9_unload_X2_takeOut
theorem dX9_unload_0 : decode cX9_unload 0 = .ok (.aload_n 0, 1) := by decide +kernel
theorem dX9_unload_1 : decode cX9_unload 1 = .ok (.getfield 10, 3) := by decide +kernel
theorem dX9_unload_4 : decode cX9_unload 4 = .ok (.getfield 49, 3) := by decide +kernel
theorem dX9_unload_7 : decode cX9_unload 7 = .ok (.iload_n 1, 1) := by decide +kernel
theorem dX9_unload_8 : decode cX9_unload 8 = .ok (.invokevirtual 77, 3) := by decide +kernel
theorem dX9_unload_11 : decode cX9_unload 11 = .ok (.astore_n 2, 1) := by decide +kernel
theorem dX9_unload_12 : decode cX9_unload 12 = .ok (.aload_n 2, 1) := by decide +kernel
theorem dX9_unload_13 : decode cX9_unload 13 = .ok (.ifnonnull 5, 3) := by decide +kernel
theorem dX9_unload_16 : decode cX9_unload 16 = .ok (.iconst (-1), 1) := by decide +kernel
theorem dX9_unload_17 : decode cX9_unload 17 = .ok (.ireturn, 1) := by decide +kernel
theorem dX9_unload_18 : decode cX9_unload 18 = .ok (.aload_n 0, 1) := by decide +kernel
theorem dX9_unload_19 : decode cX9_unload 19 = .ok (.getfield 10, 3) := by decide +kernel
theorem dX9_unload_22 : decode cX9_unload 22 = .ok (.getfield 59, 3) := by decide +kernel
theorem dX9_unload_25 : decode cX9_unload 25 = .ok (.getfield 63, 3) := by decide +kernel
theorem dX9_unload_28 : decode cX9_unload 28 = .ok (.ifCond .ne 6, 3) := by decide +kernel
theorem dX9_unload_31 : decode cX9_unload 31 = .ok (.bipush (-5), 2) := by decide +kernel
theorem dX9_unload_33 : decode cX9_unload 33 = .ok (.ireturn, 1) := by decide +kernel
theorem dX9_unload_34 : decode cX9_unload 34 = .ok (.aload_n 2, 1) := by decide +kernel
theorem dX9_unload_35 : decode cX9_unload 35 = .ok (.getfield 81, 3) := by decide +kernel
theorem dX9_unload_38 : decode cX9_unload 38 = .ok (.istore_n 3, 1) := by decide +kernel
theorem dX9_unload_39 : decode cX9_unload 39 = .ok (.aload_n 0, 1) := by decide +kernel
theorem dX9_unload_40 : decode cX9_unload 40 = .ok (.getfield 10, 3) := by decide +kernel
theorem dX9_unload_43 : decode cX9_unload 43 = .ok (.getfield 49, 3) := by decide +kernel
theorem dX9_unload_46 : decode cX9_unload 46 = .ok (.iload_n 1, 1) := by decide +kernel
theorem dX9_unload_47 : decode cX9_unload 47 = .ok (.invokevirtual 86, 3) := by decide +kernel
theorem dX9_unload_50 : decode cX9_unload 50 = .ok (.aload_n 0, 1) := by decide +kernel
theorem dX9_unload_51 : decode cX9_unload 51 = .ok (.getfield 10, 3) := by decide +kernel
theorem dX9_unload_54 : decode cX9_unload 54 = .ok (.dup, 1) := by decide +kernel
theorem dX9_unload_55 : decode cX9_unload 55 = .ok (.getfield 90, 3) := by decide +kernel
theorem dX9_unload_58 : decode cX9_unload 58 = .ok (.iload_n 3, 1) := by decide +kernel
theorem dX9_unload_59 : decode cX9_unload 59 = .ok (.i2l, 1) := by decide +kernel
theorem dX9_unload_60 : decode cX9_unload 60 = .ok (.ladd, 1) := by decide +kernel
theorem dX9_unload_61 : decode cX9_unload 61 = .ok (.putfield 90, 3) := by decide +kernel
theorem dX9_unload_64 : decode cX9_unload 64 = .ok (.iload_n 3, 1) := by decide +kernel
theorem dX9_unload_65 : decode cX9_unload 65 = .ok (.ireturn, 1) := by decide +kernel
set_option maxRecDepth 20000 in
theorem ggX9_shift_X2_boxAt : GoodIn wsX9_shift wsX2_boxAt := goodIn_r _ [8, 9, 10, 11, 12, 13, 38, 39] (by decide +kernel) (by decide +kernel)
set_option maxRecDepth 20000 in
theorem gX9_shift_X2_boxAt : GoodIn wsX9_shift (wsV RX9 77 RX2 yX2_boxAt wsX2_boxAt) := goodIn_app (goodIn_of _ (by decide +kernel)) ggX9_shift_X2_boxAt
set_option maxRecDepth 20000 in
theorem ggX9_shift_X2_move : GoodIn wsX9_shift wsX2_move := goodIn_r _ [17, 9, 10, 11, 12, 13, 38, 39] (by decide +kernel) (by decide +kernel)
set_option maxRecDepth 20000 in
theorem gX9_shift_X2_move : GoodIn wsX9_shift (wsV RX9 93 RX2 yX2_move wsX2_move) := goodIn_app (goodIn_of _ (by decide +kernel)) ggX9_shift_X2_move
theorem dX9_shift_0 : decode cX9_shift 0 = .ok (.aload_n 0, 1) := by decide +kernel
theorem dX9_shift_1 : decode cX9_shift 1 = .ok (.getfield 10, 3) := by decide +kernel
theorem dX9_shift_4 : decode cX9_shift 4 = .ok (.getfield 49, 3) := by decide +kernel
theorem dX9_shift_7 : decode cX9_shift 7 = .ok (.iload_n 1, 1) := by decide +kernel
theorem dX9_shift_8 : decode cX9_shift 8 = .ok (.invokevirtual 77, 3) := by decide +kernel
theorem dX9_shift_11 : decode cX9_shift 11 = .ok (.astore_n 3, 1) := by decide +kernel
theorem dX9_shift_12 : decode cX9_shift 12 = .ok (.aload_n 3, 1) := by decide +kernel
theorem dX9_shift_13 : decode cX9_shift 13 = .ok (.ifnull 17, 3) := by decide +kernel
theorem dX9_shift_16 : decode cX9_shift 16 = .ok (.aload_n 0, 1) := by decide +kernel
theorem dX9_shift_17 : decode cX9_shift 17 = .ok (.getfield 10, 3) := by decide +kernel
theorem dX9_shift_20 : decode cX9_shift 20 = .ok (.getfield 49, 3) := by decide +kernel
theorem dX9_shift_23 : decode cX9_shift 23 = .ok (.iload_n 2, 1) := by decide +kernel
theorem dX9_shift_24 : decode cX9_shift 24 = .ok (.invokevirtual 77, 3) := by decide +kernel
theorem dX9_shift_27 : decode cX9_shift 27 = .ok (.ifnonnull 5, 3) := by decide +kernel
theorem dX9_shift_30 : decode cX9_shift 30 = .ok (.iconst (-1), 1) := by decide +kernel
theorem dX9_shift_31 : decode cX9_shift 31 = .ok (.ireturn, 1) := by decide +kernel
theorem dX9_shift_32 : decode cX9_shift 32 = .ok (.aload_n 0, 1) := by decide +kernel
theorem dX9_shift_33 : decode cX9_shift 33 = .ok (.getfield 10, 3) := by decide +kernel
theorem dX9_shift_36 : decode cX9_shift 36 = .ok (.getfield 49, 3) := by decide +kernel
theorem dX9_shift_39 : decode cX9_shift 39 = .ok (.iload_n 1, 1) := by decide +kernel
theorem dX9_shift_40 : decode cX9_shift 40 = .ok (.iload_n 2, 1) := by decide +kernel
theorem dX9_shift_41 : decode cX9_shift 41 = .ok (.invokevirtual 93, 3) := by decide +kernel
theorem dX9_shift_44 : decode cX9_shift 44 = .ok (.aload_n 3, 1) := by decide +kernel
theorem dX9_shift_45 : decode cX9_shift 45 = .ok (.getfield 81, 3) := by decide +kernel
theorem dX9_shift_48 : decode cX9_shift 48 = .ok (.ireturn, 1) := by decide +kernel
set_option maxRecDepth 20000 in
theorem ggX9_set_X6_allows : GoodIn wsX9_set wsX6_allows := goodIn_r _ [7, 8, 9, 10] (by decide +kernel) (by decide +kernel)
set_option maxRecDepth 20000 in
theorem gX9_set_X6_allows : GoodIn wsX9_set (wsV RX9 101 RX6 yX6_allows wsX6_allows) := goodIn_app (goodIn_of _ (by decide +kernel)) ggX9_set_X6_allows
set_option maxRecDepth 20000 in
theorem ggX9_set_X6_change : GoodIn wsX9_set wsX6_change := goodIn_r _ [14, 15, 16, 17, 18, 6, 19, 8, 9, 10, 20, 4, 5, 7, 37] (by decide +kernel) (by decide +kernel)
set_option maxRecDepth 20000 in
theorem gX9_set_X6_change : GoodIn wsX9_set (wsV RX9 107 RX6 yX6_change wsX6_change) := goodIn_app (goodIn_of _ (by decide +kernel)) ggX9_set_X6_change
theorem dX9_set_0 : decode cX9_set 0 = .ok (.aload_n 0, 1) := by decide +kernel
theorem dX9_set_1 : decode cX9_set 1 = .ok (.getfield 10, 3) := by decide +kernel
theorem dX9_set_4 : decode cX9_set 4 = .ok (.getfield 97, 3) := by decide +kernel
theorem dX9_set_7 : decode cX9_set 7 = .ok (.iload_n 1, 1) := by decide +kernel
theorem dX9_set_8 : decode cX9_set 8 = .ok (.iload_n 2, 1) := by decide +kernel
theorem dX9_set_9 : decode cX9_set 9 = .ok (.invokevirtual 101, 3) := by decide +kernel
theorem dX9_set_12 : decode cX9_set 12 = .ok (.ifCond .ne 6, 3) := by decide +kernel
theorem dX9_set_15 : decode cX9_set 15 = .ok (.bipush (-2), 2) := by decide +kernel
theorem dX9_set_17 : decode cX9_set 17 = .ok (.ireturn, 1) := by decide +kernel
theorem dX9_set_18 : decode cX9_set 18 = .ok (.aload_n 0, 1) := by decide +kernel
theorem dX9_set_19 : decode cX9_set 19 = .ok (.getfield 10, 3) := by decide +kernel
theorem dX9_set_22 : decode cX9_set 22 = .ok (.getfield 97, 3) := by decide +kernel
theorem dX9_set_25 : decode cX9_set 25 = .ok (.iload_n 1, 1) := by decide +kernel
theorem dX9_set_26 : decode cX9_set 26 = .ok (.iload_n 2, 1) := by decide +kernel
theorem dX9_set_27 : decode cX9_set 27 = .ok (.invokevirtual 107, 3) := by decide +kernel
theorem dX9_set_30 : decode cX9_set 30 = .ok (.ireturn, 1) := by decide +kernel
set_option maxRecDepth 20000 in
theorem ggX9_leg_X9_within : GoodIn wsX9_leg wsX9_within := goodIn_r _ [7] (by decide +kernel) (by decide +kernel)
set_option maxRecDepth 20000 in
theorem gX9_leg_X9_within : GoodIn wsX9_leg (va_wsS RX9 43 yX9_within wsX9_within) := goodIn_app (goodIn_of _ (by decide +kernel)) ggX9_leg_X9_within
set_option maxRecDepth 20000 in
theorem ggX9_leg_X4_append : GoodIn wsX9_leg wsX4_append := goodIn_r _ [12, 13, 14, 15, 32, 33, 34, 35, 36] (by decide +kernel) (by decide +kernel)
set_option maxRecDepth 20000 in
theorem gX9_leg_X4_append : GoodIn wsX9_leg (wsV RX9 118 RX4 yX4_append wsX4_append) := goodIn_app (goodIn_of _ (by decide +kernel)) ggX9_leg_X4_append
theorem dX9_leg_0 : decode cX9_leg 0 = .ok (.iload_n 1, 1) := by decide +kernel
theorem dX9_leg_1 : decode cX9_leg 1 = .ok (.iconst 1, 1) := by decide +kernel
theorem dX9_leg_2 : decode cX9_leg 2 = .ok (.sipush 600, 3) := by decide +kernel
theorem dX9_leg_5 : decode cX9_leg 5 = .ok (.invokestatic 43, 3) := by decide +kernel
theorem dX9_leg_8 : decode cX9_leg 8 = .ok (.ifCond .eq 16, 3) := by decide +kernel
theorem dX9_leg_11 : decode cX9_leg 11 = .ok (.iload_n 2, 1) := by decide +kernel
theorem dX9_leg_12 : decode cX9_leg 12 = .ok (.sipush (-4000), 3) := by decide +kernel
theorem dX9_leg_15 : decode cX9_leg 15 = .ok (.sipush 5000, 3) := by decide +kernel
theorem dX9_leg_18 : decode cX9_leg 18 = .ok (.invokestatic 43, 3) := by decide +kernel
theorem dX9_leg_21 : decode cX9_leg 21 = .ok (.ifCond .ne 6, 3) := by decide +kernel
theorem dX9_leg_24 : decode cX9_leg 24 = .ok (.bipush (-2), 2) := by decide +kernel
theorem dX9_leg_26 : decode cX9_leg 26 = .ok (.ireturn, 1) := by decide +kernel
theorem dX9_leg_27 : decode cX9_leg 27 = .ok (.aload_n 0, 1) := by decide +kernel
theorem dX9_leg_28 : decode cX9_leg 28 = .ok (.getfield 10, 3) := by decide +kernel
theorem dX9_leg_31 : decode cX9_leg 31 = .ok (.getfield 111, 3) := by decide +kernel
theorem dX9_leg_34 : decode cX9_leg 34 = .ok (.getfield 115, 3) := by decide +kernel
theorem dX9_leg_37 : decode cX9_leg 37 = .ok (.bipush 12, 2) := by decide +kernel
theorem dX9_leg_39 : decode cX9_leg 39 = .ok (.if_icmp .lt 6, 3) := by decide +kernel
theorem dX9_leg_42 : decode cX9_leg 42 = .ok (.bipush (-4), 2) := by decide +kernel
theorem dX9_leg_44 : decode cX9_leg 44 = .ok (.ireturn, 1) := by decide +kernel
theorem dX9_leg_45 : decode cX9_leg 45 = .ok (.aload_n 0, 1) := by decide +kernel
theorem dX9_leg_46 : decode cX9_leg 46 = .ok (.getfield 10, 3) := by decide +kernel
theorem dX9_leg_49 : decode cX9_leg 49 = .ok (.getfield 111, 3) := by decide +kernel
theorem dX9_leg_52 : decode cX9_leg 52 = .ok (.iload_n 1, 1) := by decide +kernel
theorem dX9_leg_53 : decode cX9_leg 53 = .ok (.iload_n 2, 1) := by decide +kernel
theorem dX9_leg_54 : decode cX9_leg 54 = .ok (.invokevirtual 118, 3) := by decide +kernel
theorem dX9_leg_57 : decode cX9_leg 57 = .ok (.aload_n 0, 1) := by decide +kernel
theorem dX9_leg_58 : decode cX9_leg 58 = .ok (.getfield 10, 3) := by decide +kernel
theorem dX9_leg_61 : decode cX9_leg 61 = .ok (.getfield 111, 3) := by decide +kernel
theorem dX9_leg_64 : decode cX9_leg 64 = .ok (.getfield 115, 3) := by decide +kernel
theorem dX9_leg_67 : decode cX9_leg 67 = .ok (.iconst 1, 1) := by decide +kernel
theorem dX9_leg_68 : decode cX9_leg 68 = .ok (.isub, 1) := by decide +kernel
theorem dX9_leg_69 : decode cX9_leg 69 = .ok (.ireturn, 1) := by decide +kernel
set_option maxRecDepth 20000 in
theorem ggX9_depart_X4_isOnTheWay : GoodIn wsX9_depart wsX4_isOnTheWay := goodIn_r _ [10, 11, 54, 55, 56, 57, 58] (by decide +kernel) (by decide +kernel)
set_option maxRecDepth 20000 in
theorem gX9_depart_X4_isOnTheWay : GoodIn wsX9_depart (wsV RX9 124 RX4 yX4_isOnTheWay wsX4_isOnTheWay) := goodIn_app (goodIn_of _ (by decide +kernel)) ggX9_depart_X4_isOnTheWay
set_option maxRecDepth 20000 in
theorem ggX9_depart_X4_hasNextLeg : GoodIn wsX9_depart wsX4_hasNextLeg := goodIn_r _ [15, 16, 17, 18, 19, 9, 20, 21, 22, 23, 24, 54, 55, 56, 57, 58] (by decide +kernel) (by decide +kernel)
set_option maxRecDepth 20000 in
theorem gX9_depart_X4_hasNextLeg : GoodIn wsX9_depart (wsV RX9 120 RX4 yX4_hasNextLeg wsX4_hasNextLeg) := goodIn_app (goodIn_of _ (by decide +kernel)) ggX9_depart_X4_hasNextLeg
set_option maxRecDepth 20000 in
theorem ggX9_depart_X4_beginNextLeg : GoodIn wsX9_depart wsX4_beginNextLeg := goodIn_r _ [28, 16, 29, 11, 30, 13, 14, 9, 15, 17, 18, 19, 20, 21, 22, 23, 24, 54, 55, 56, 57, 58] (by decide +kernel) (by decide +kernel)
set_option maxRecDepth 20000 in
theorem gX9_depart_X4_beginNextLeg : GoodIn wsX9_depart (wsV RX9 127 RX4 yX4_beginNextLeg wsX4_beginNextLeg) := goodIn_app (goodIn_of _ (by decide +kernel)) ggX9_depart_X4_beginNextLeg
theorem dX9_depart_0 : decode cX9_depart 0 = .ok (.aload_n 0, 1) := by decide +kernel
theorem dX9_depart_1 : decode cX9_depart 1 = .ok (.getfield 10, 3) := by decide +kernel
theorem dX9_depart_4 : decode cX9_depart 4 = .ok (.getfield 111, 3) := by decide +kernel
theorem dX9_depart_7 : decode cX9_depart 7 = .ok (.invokevirtual 124, 3) := by decide +kernel
theorem dX9_depart_10 : decode cX9_depart 10 = .ok (.ifCond .ne 29, 3) := by decide +kernel
theorem dX9_depart_13 : decode cX9_depart 13 = .ok (.aload_n 0, 1) := by decide +kernel
theorem dX9_depart_14 : decode cX9_depart 14 = .ok (.getfield 10, 3) := by decide +kernel
theorem dX9_depart_17 : decode cX9_depart 17 = .ok (.getfield 59, 3) := by decide +kernel
theorem dX9_depart_20 : decode cX9_depart 20 = .ok (.getfield 63, 3) := by decide +kernel
theorem dX9_depart_23 : decode cX9_depart 23 = .ok (.ifCond .ne 16, 3) := by decide +kernel
theorem dX9_depart_26 : decode cX9_depart 26 = .ok (.aload_n 0, 1) := by decide +kernel
theorem dX9_depart_27 : decode cX9_depart 27 = .ok (.getfield 10, 3) := by decide +kernel
theorem dX9_depart_30 : decode cX9_depart 30 = .ok (.getfield 111, 3) := by decide +kernel
theorem dX9_depart_33 : decode cX9_depart 33 = .ok (.invokevirtual 120, 3) := by decide +kernel
theorem dX9_depart_36 : decode cX9_depart 36 = .ok (.ifCond .ne 6, 3) := by decide +kernel
theorem dX9_depart_39 : decode cX9_depart 39 = .ok (.bipush (-5), 2) := by decide +kernel
theorem dX9_depart_41 : decode cX9_depart 41 = .ok (.ireturn, 1) := by decide +kernel
theorem dX9_depart_42 : decode cX9_depart 42 = .ok (.aload_n 0, 1) := by decide +kernel
theorem dX9_depart_43 : decode cX9_depart 43 = .ok (.getfield 10, 3) := by decide +kernel
theorem dX9_depart_46 : decode cX9_depart 46 = .ok (.getfield 111, 3) := by decide +kernel
theorem dX9_depart_49 : decode cX9_depart 49 = .ok (.invokevirtual 127, 3) := by decide +kernel
theorem dX9_depart_52 : decode cX9_depart 52 = .ok (.aload_n 0, 1) := by decide +kernel
theorem dX9_depart_53 : decode cX9_depart 53 = .ok (.getfield 10, 3) := by decide +kernel
theorem dX9_depart_56 : decode cX9_depart 56 = .ok (.getfield 111, 3) := by decide +kernel
theorem dX9_depart_59 : decode cX9_depart 59 = .ok (.getfield 130, 3) := by decide +kernel
theorem dX9_depart_62 : decode cX9_depart 62 = .ok (.ireturn, 1) := by decide +kernel
set_option maxRecDepth 20000 in
theorem ggX9_pass_X9_within : GoodIn wsX9_pass wsX9_within := goodIn_r _ [13] (by decide +kernel) (by decide +kernel)
set_option maxRecDepth 20000 in
theorem gX9_pass_X9_within : GoodIn wsX9_pass (va_wsS RX9 43 yX9_within wsX9_within) := goodIn_app (goodIn_of _ (by decide +kernel)) ggX9_pass_X9_within
set_option maxRecDepth 20000 in
theorem ggX9_pass_X8_letPass : GoodIn wsX9_pass wsX8_letPass := goodIn_r _ [18, 19, 20, 21, 17, 22, 23, 24, 25, 26, 27, 28, 29, 30, 31, 32, 33, 34, 35, 11, 12, 13, 36, 37, 38, 39, 40, 41, 42, 43, 44, 45, 46, 47, 48, 49, 50, 51, 8, 52, 53, 54, 55, 56, 57, 58, 59, 60, 61, 62, 63, 64, 65, 66, 67, 68, 69, 70, 71, 72, 73, 74, 75, 76, 77, 78, 79, 80, 81, 82, 83, 84, 85, 86, 87, 88, 89, 90, 91, 92, 93, 7, 9, 94, 95, 96, 97, 98, 99, 100, 101, 102, 103, 104, 105, 106, 107, 108, 109, 110, 111, 112, 113, 114, 115, 116, 117, 118, 119, 120, 121, 122, 123, 124, 125, 126, 127, 128, 129, 130, 131, 132, 139, 140, 141, 142, 143, 144, 145, 146, 147, 148, 154, 155, 156, 157, 158, 159, 160, 161, 162, 163, 164, 165, 166, 167, 149, 150, 151, 152, 153] (by decide +kernel) (by decide +kernel)
set_option maxRecDepth 20000 in
theorem gX9_pass_X8_letPass : GoodIn wsX9_pass (wsV RX9 145 RX8 yX8_letPass wsX8_letPass) := goodIn_app (goodIn_of _ (by decide +kernel)) ggX9_pass_X8_letPass
theorem dX9_pass_0 : decode cX9_pass 0 = .ok (.iload_n 1, 1) := by decide +kernel
theorem dX9_pass_1 : decode cX9_pass 1 = .ok (.iconst 1, 1) := by decide +kernel
theorem dX9_pass_2 : decode cX9_pass 2 = .ok (.sipush 1000, 3) := by decide +kernel
theorem dX9_pass_5 : decode cX9_pass 5 = .ok (.invokestatic 43, 3) := by decide +kernel
theorem dX9_pass_8 : decode cX9_pass 8 = .ok (.ifCond .ne 6, 3) := by decide +kernel
theorem dX9_pass_11 : decode cX9_pass 11 = .ok (.bipush (-2), 2) := by decide +kernel
theorem dX9_pass_13 : decode cX9_pass 13 = .ok (.ireturn, 1) := by decide +kernel
theorem dX9_pass_14 : decode cX9_pass 14 = .ok (.aload_n 0, 1) := by decide +kernel
theorem dX9_pass_15 : decode cX9_pass 15 = .ok (.getfield 10, 3) := by decide +kernel
theorem dX9_pass_18 : decode cX9_pass 18 = .ok (.getfield 133, 3) := by decide +kernel
theorem dX9_pass_21 : decode cX9_pass 21 = .ok (.iload_n 1, 1) := by decide +kernel
theorem dX9_pass_22 : decode cX9_pass 22 = .ok (.iadd, 1) := by decide +kernel
theorem dX9_pass_23 : decode cX9_pass 23 = .ok (.ldc 136, 2) := by decide +kernel
theorem dX9_pass_25 : decode cX9_pass 25 = .ok (.if_icmp .le 6, 3) := by decide +kernel
theorem dX9_pass_28 : decode cX9_pass 28 = .ok (.bipush (-5), 2) := by decide +kernel
theorem dX9_pass_30 : decode cX9_pass 30 = .ok (.ireturn, 1) := by decide +kernel
theorem dX9_pass_31 : decode cX9_pass 31 = .ok (.iload_n 1, 1) := by decide +kernel
theorem dX9_pass_32 : decode cX9_pass 32 = .ok (.aload_n 0, 1) := by decide +kernel
theorem dX9_pass_33 : decode cX9_pass 33 = .ok (.getfield 10, 3) := by decide +kernel
theorem dX9_pass_36 : decode cX9_pass 36 = .ok (.getfield 111, 3) := by decide +kernel
theorem dX9_pass_39 : decode cX9_pass 39 = .ok (.getfield 137, 3) := by decide +kernel
theorem dX9_pass_42 : decode cX9_pass 42 = .ok (.invokestatic 140, 3) := by decide +kernel
theorem dX9_pass_45 : decode cX9_pass 45 = .ok (.istore_n 2, 1) := by decide +kernel
theorem dX9_pass_46 : decode cX9_pass 46 = .ok (.aload_n 0, 1) := by decide +kernel
theorem dX9_pass_47 : decode cX9_pass 47 = .ok (.getfield 10, 3) := by decide +kernel
theorem dX9_pass_50 : decode cX9_pass 50 = .ok (.iload_n 1, 1) := by decide +kernel
theorem dX9_pass_51 : decode cX9_pass 51 = .ok (.invokevirtual 145, 3) := by decide +kernel
theorem dX9_pass_54 : decode cX9_pass 54 = .ok (.iload_n 2, 1) := by decide +kernel
theorem dX9_pass_55 : decode cX9_pass 55 = .ok (.ireturn, 1) := by decide +kernel
set_option maxRecDepth 20000 in
theorem ggX9_vent_X9_within : GoodIn wsX9_vent wsX9_within := goodIn_r _ [7] (by decide +kernel) (by decide +kernel)
set_option maxRecDepth 20000 in
theorem gX9_vent_X9_within : GoodIn wsX9_vent (va_wsS RX9 43 yX9_within wsX9_within) := goodIn_app (goodIn_of _ (by decide +kernel)) ggX9_vent_X9_within
set_option maxRecDepth 20000 in
theorem ggX9_vent_X1_setVentMode : GoodIn wsX9_vent wsX1_setVentMode := goodIn_r _ [12, 13, 14, 15, 16, 11, 17, 18, 19, 20, 21, 22, 23, 24, 25, 26, 27, 44, 45, 46, 47, 48, 49, 50] (by decide +kernel) (by decide +kernel)
set_option maxRecDepth 20000 in
theorem gX9_vent_X1_setVentMode : GoodIn wsX9_vent (wsV RX9 151 RX1 yX1_setVentMode wsX1_setVentMode) := goodIn_app (goodIn_of _ (by decide +kernel)) ggX9_vent_X1_setVentMode
theorem dX9_vent_0 : decode cX9_vent 0 = .ok (.iload_n 1, 1) := by decide +kernel
theorem dX9_vent_1 : decode cX9_vent 1 = .ok (.iconst 0, 1) := by decide +kernel
theorem dX9_vent_2 : decode cX9_vent 2 = .ok (.iconst 2, 1) := by decide +kernel
theorem dX9_vent_3 : decode cX9_vent 3 = .ok (.invokestatic 43, 3) := by decide +kernel
theorem dX9_vent_6 : decode cX9_vent 6 = .ok (.ifCond .ne 6, 3) := by decide +kernel
theorem dX9_vent_9 : decode cX9_vent 9 = .ok (.bipush (-2), 2) := by decide +kernel
theorem dX9_vent_11 : decode cX9_vent 11 = .ok (.ireturn, 1) := by decide +kernel
theorem dX9_vent_12 : decode cX9_vent 12 = .ok (.aload_n 0, 1) := by decide +kernel
theorem dX9_vent_13 : decode cX9_vent 13 = .ok (.getfield 10, 3) := by decide +kernel
theorem dX9_vent_16 : decode cX9_vent 16 = .ok (.getfield 59, 3) := by decide +kernel
theorem dX9_vent_19 : decode cX9_vent 19 = .ok (.getfield 148, 3) := by decide +kernel
theorem dX9_vent_22 : decode cX9_vent 22 = .ok (.istore_n 2, 1) := by decide +kernel
theorem dX9_vent_23 : decode cX9_vent 23 = .ok (.aload_n 0, 1) := by decide +kernel
theorem dX9_vent_24 : decode cX9_vent 24 = .ok (.getfield 10, 3) := by decide +kernel
theorem dX9_vent_27 : decode cX9_vent 27 = .ok (.getfield 59, 3) := by decide +kernel
theorem dX9_vent_30 : decode cX9_vent 30 = .ok (.iload_n 1, 1) := by decide +kernel
theorem dX9_vent_31 : decode cX9_vent 31 = .ok (.invokevirtual 151, 3) := by decide +kernel
theorem dX9_vent_34 : decode cX9_vent 34 = .ok (.iload_n 2, 1) := by decide +kernel
theorem dX9_vent_35 : decode cX9_vent 35 = .ok (.ireturn, 1) := by decide +kernel
set_option maxRecDepth 20000 in
theorem ggX9_open_X4_isOnTheWay : GoodIn wsX9_open wsX4_isOnTheWay := goodIn_r _ [9, 10, 70, 71, 72, 73, 74] (by decide +kernel) (by decide +kernel)
set_option maxRecDepth 20000 in
theorem gX9_open_X4_isOnTheWay : GoodIn wsX9_open (wsV RX9 124 RX4 yX4_isOnTheWay wsX4_isOnTheWay) := goodIn_app (goodIn_of _ (by decide +kernel)) ggX9_open_X4_isOnTheWay
set_option maxRecDepth 20000 in
theorem ggX9_open_X8_isSafe : GoodIn wsX9_open wsX8_isSafe := goodIn_r _ [15, 16, 17, 18, 19, 14, 20, 21, 22, 23, 24, 25, 26, 27, 28, 29, 30, 31, 32, 33, 34, 35, 36, 37, 38, 39, 40, 53, 54, 55, 56, 57, 58, 59, 60, 61, 62, 63, 64, 65, 66, 67, 68, 69, 75] (by decide +kernel) (by decide +kernel)
set_option maxRecDepth 20000 in
theorem gX9_open_X8_isSafe : GoodIn wsX9_open (wsV RX9 154 RX8 yX8_isSafe wsX8_isSafe) := goodIn_app (goodIn_of _ (by decide +kernel)) ggX9_open_X8_isSafe
set_option maxRecDepth 20000 in
theorem ggX9_open_X1_openVent : GoodIn wsX9_open wsX1_openVent := goodIn_r _ [44, 45, 63, 64, 65, 66, 67, 68, 69] (by decide +kernel) (by decide +kernel)
set_option maxRecDepth 20000 in
theorem gX9_open_X1_openVent : GoodIn wsX9_open (wsV RX9 157 RX1 yX1_openVent wsX1_openVent) := goodIn_app (goodIn_of _ (by decide +kernel)) ggX9_open_X1_openVent
set_option maxRecDepth 20000 in
theorem ggX9_open_X8_concentration : GoodIn wsX9_open wsX8_concentration := goodIn_r _ [20, 21, 16, 22, 23, 24, 25, 26, 27, 28, 29, 30, 31, 32, 33, 34, 35, 36, 37, 38, 39, 53, 54, 55, 56, 57, 58, 59, 60, 61, 62, 63, 64, 65, 66, 67, 68, 69, 75] (by decide +kernel) (by decide +kernel)
set_option maxRecDepth 20000 in
theorem gX9_open_X8_concentration : GoodIn wsX9_open (wsV RX9 160 RX8 yX8_concentration wsX8_concentration) := goodIn_app (goodIn_of _ (by decide +kernel)) ggX9_open_X8_concentration
theorem dX9_open_0 : decode cX9_open 0 = .ok (.aload_n 0, 1) := by decide +kernel
theorem dX9_open_1 : decode cX9_open 1 = .ok (.getfield 10, 3) := by decide +kernel
theorem dX9_open_4 : decode cX9_open 4 = .ok (.getfield 111, 3) := by decide +kernel
theorem dX9_open_7 : decode cX9_open 7 = .ok (.invokevirtual 124, 3) := by decide +kernel
theorem dX9_open_10 : decode cX9_open 10 = .ok (.ifCond .ne 16, 3) := by decide +kernel
theorem dX9_open_13 : decode cX9_open 13 = .ok (.aload_n 0, 1) := by decide +kernel
theorem dX9_open_14 : decode cX9_open 14 = .ok (.getfield 10, 3) := by decide +kernel
theorem dX9_open_17 : decode cX9_open 17 = .ok (.getfield 59, 3) := by decide +kernel
theorem dX9_open_20 : decode cX9_open 20 = .ok (.getfield 63, 3) := by decide +kernel
theorem dX9_open_23 : decode cX9_open 23 = .ok (.ifCond .eq 6, 3) := by decide +kernel
theorem dX9_open_26 : decode cX9_open 26 = .ok (.bipush (-5), 2) := by decide +kernel
theorem dX9_open_28 : decode cX9_open 28 = .ok (.ireturn, 1) := by decide +kernel
theorem dX9_open_29 : decode cX9_open 29 = .ok (.aload_n 0, 1) := by decide +kernel
theorem dX9_open_30 : decode cX9_open 30 = .ok (.getfield 10, 3) := by decide +kernel
theorem dX9_open_33 : decode cX9_open 33 = .ok (.invokevirtual 154, 3) := by decide +kernel
theorem dX9_open_36 : decode cX9_open 36 = .ok (.ifCond .ne 16, 3) := by decide +kernel
theorem dX9_open_39 : decode cX9_open 39 = .ok (.aload_n 0, 1) := by decide +kernel
theorem dX9_open_40 : decode cX9_open 40 = .ok (.getfield 10, 3) := by decide +kernel
theorem dX9_open_43 : decode cX9_open 43 = .ok (.getfield 59, 3) := by decide +kernel
theorem dX9_open_46 : decode cX9_open 46 = .ok (.invokevirtual 157, 3) := by decide +kernel
theorem dX9_open_49 : decode cX9_open 49 = .ok (.bipush (-6), 2) := by decide +kernel
theorem dX9_open_51 : decode cX9_open 51 = .ok (.ireturn, 1) := by decide +kernel
theorem dX9_open_52 : decode cX9_open 52 = .ok (.aload_n 0, 1) := by decide +kernel
theorem dX9_open_53 : decode cX9_open 53 = .ok (.getfield 10, 3) := by decide +kernel
theorem dX9_open_56 : decode cX9_open 56 = .ok (.getfield 59, 3) := by decide +kernel
theorem dX9_open_59 : decode cX9_open 59 = .ok (.iconst 1, 1) := by decide +kernel
theorem dX9_open_60 : decode cX9_open 60 = .ok (.putfield 63, 3) := by decide +kernel
theorem dX9_open_63 : decode cX9_open 63 = .ok (.aload_n 0, 1) := by decide +kernel
theorem dX9_open_64 : decode cX9_open 64 = .ok (.getfield 10, 3) := by decide +kernel
theorem dX9_open_67 : decode cX9_open 67 = .ok (.invokevirtual 160, 3) := by decide +kernel
theorem dX9_open_70 : decode cX9_open 70 = .ok (.l2i, 1) := by decide +kernel
theorem dX9_open_71 : decode cX9_open 71 = .ok (.ireturn, 1) := by decide +kernel
set_option maxRecDepth 20000 in
theorem ggX9_shut_X8_concentration : GoodIn wsX9_shut wsX8_concentration := goodIn_r _ [8, 9, 10, 11, 12, 13, 14, 15, 16, 17, 18, 19, 20, 21, 22, 23, 24, 25, 26, 27, 28, 35, 36, 37, 38, 39, 40, 41, 42, 43, 44, 45, 46, 47, 48, 49, 50, 51, 52] (by decide +kernel) (by decide +kernel)
set_option maxRecDepth 20000 in
theorem gX9_shut_X8_concentration : GoodIn wsX9_shut (wsV RX9 160 RX8 yX8_concentration wsX8_concentration) := goodIn_app (goodIn_of _ (by decide +kernel)) ggX9_shut_X8_concentration
theorem dX9_shut_0 : decode cX9_shut 0 = .ok (.aload_n 0, 1) := by decide +kernel
theorem dX9_shut_1 : decode cX9_shut 1 = .ok (.getfield 10, 3) := by decide +kernel
theorem dX9_shut_4 : decode cX9_shut 4 = .ok (.getfield 59, 3) := by decide +kernel
theorem dX9_shut_7 : decode cX9_shut 7 = .ok (.getfield 63, 3) := by decide +kernel
theorem dX9_shut_10 : decode cX9_shut 10 = .ok (.ifCond .ne 6, 3) := by decide +kernel
theorem dX9_shut_13 : decode cX9_shut 13 = .ok (.bipush (-5), 2) := by decide +kernel
theorem dX9_shut_15 : decode cX9_shut 15 = .ok (.ireturn, 1) := by decide +kernel
theorem dX9_shut_16 : decode cX9_shut 16 = .ok (.aload_n 0, 1) := by decide +kernel
theorem dX9_shut_17 : decode cX9_shut 17 = .ok (.getfield 10, 3) := by decide +kernel
theorem dX9_shut_20 : decode cX9_shut 20 = .ok (.getfield 59, 3) := by decide +kernel
theorem dX9_shut_23 : decode cX9_shut 23 = .ok (.iconst 0, 1) := by decide +kernel
theorem dX9_shut_24 : decode cX9_shut 24 = .ok (.putfield 63, 3) := by decide +kernel
theorem dX9_shut_27 : decode cX9_shut 27 = .ok (.aload_n 0, 1) := by decide +kernel
theorem dX9_shut_28 : decode cX9_shut 28 = .ok (.getfield 10, 3) := by decide +kernel
theorem dX9_shut_31 : decode cX9_shut 31 = .ok (.invokevirtual 160, 3) := by decide +kernel
theorem dX9_shut_34 : decode cX9_shut 34 = .ok (.l2i, 1) := by decide +kernel
theorem dX9_shut_35 : decode cX9_shut 35 = .ok (.ireturn, 1) := by decide +kernel
set_option maxRecDepth 20000 in
theorem ggX9_sell_X9_within : GoodIn wsX9_sell wsX9_within := goodIn_r _ [10] (by decide +kernel) (by decide +kernel)
set_option maxRecDepth 20000 in
theorem gX9_sell_X9_within : GoodIn wsX9_sell (va_wsS RX9 43 yX9_within wsX9_within) := goodIn_app (goodIn_of _ (by decide +kernel)) ggX9_sell_X9_within
set_option maxRecDepth 20000 in
theorem ggX9_sell_X2_iceOfAll : GoodIn wsX9_sell wsX2_iceOfAll := goodIn_r _ [15, 16, 17, 18, 60, 61, 62, 63, 64, 65] (by decide +kernel) (by decide +kernel)
set_option maxRecDepth 20000 in
theorem gX9_sell_X2_iceOfAll : GoodIn wsX9_sell (wsV RX9 165 RX2 yX2_iceOfAll wsX2_iceOfAll) := goodIn_app (goodIn_of _ (by decide +kernel)) ggX9_sell_X2_iceOfAll
set_option maxRecDepth 20000 in
theorem ggX9_sell_X2_takeFromFront : GoodIn wsX9_sell wsX2_takeFromFront := goodIn_r _ [22, 16, 17, 18, 23, 24, 25, 26, 27, 28, 29, 30, 31, 32, 33, 34, 35, 36, 60, 61, 62, 63, 64, 65] (by decide +kernel) (by decide +kernel)
set_option maxRecDepth 20000 in
theorem gX9_sell_X2_takeFromFront : GoodIn wsX9_sell (wsV RX9 172 RX2 yX2_takeFromFront wsX2_takeFromFront) := goodIn_app (goodIn_of _ (by decide +kernel)) ggX9_sell_X2_takeFromFront
theorem dX9_sell_0 : decode cX9_sell 0 = .ok (.iload_n 1, 1) := by decide +kernel
theorem dX9_sell_1 : decode cX9_sell 1 = .ok (.iconst 1, 1) := by decide +kernel
theorem dX9_sell_2 : decode cX9_sell 2 = .ok (.ldc 164, 2) := by decide +kernel
theorem dX9_sell_4 : decode cX9_sell 4 = .ok (.invokestatic 43, 3) := by decide +kernel
theorem dX9_sell_7 : decode cX9_sell 7 = .ok (.ifCond .ne 6, 3) := by decide +kernel
theorem dX9_sell_10 : decode cX9_sell 10 = .ok (.bipush (-2), 2) := by decide +kernel
theorem dX9_sell_12 : decode cX9_sell 12 = .ok (.ireturn, 1) := by decide +kernel
theorem dX9_sell_13 : decode cX9_sell 13 = .ok (.aload_n 0, 1) := by decide +kernel
theorem dX9_sell_14 : decode cX9_sell 14 = .ok (.getfield 10, 3) := by decide +kernel
theorem dX9_sell_17 : decode cX9_sell 17 = .ok (.getfield 59, 3) := by decide +kernel
theorem dX9_sell_20 : decode cX9_sell 20 = .ok (.getfield 63, 3) := by decide +kernel
theorem dX9_sell_23 : decode cX9_sell 23 = .ok (.ifCond .eq 17, 3) := by decide +kernel
theorem dX9_sell_26 : decode cX9_sell 26 = .ok (.iload_n 1, 1) := by decide +kernel
theorem dX9_sell_27 : decode cX9_sell 27 = .ok (.aload_n 0, 1) := by decide +kernel
theorem dX9_sell_28 : decode cX9_sell 28 = .ok (.getfield 10, 3) := by decide +kernel
theorem dX9_sell_31 : decode cX9_sell 31 = .ok (.getfield 49, 3) := by decide +kernel
theorem dX9_sell_34 : decode cX9_sell 34 = .ok (.invokevirtual 165, 3) := by decide +kernel
theorem dX9_sell_37 : decode cX9_sell 37 = .ok (.if_icmp .le 6, 3) := by decide +kernel
theorem dX9_sell_40 : decode cX9_sell 40 = .ok (.bipush (-5), 2) := by decide +kernel
theorem dX9_sell_42 : decode cX9_sell 42 = .ok (.ireturn, 1) := by decide +kernel
theorem dX9_sell_43 : decode cX9_sell 43 = .ok (.aload_n 0, 1) := by decide +kernel
theorem dX9_sell_44 : decode cX9_sell 44 = .ok (.getfield 10, 3) := by decide +kernel
theorem dX9_sell_47 : decode cX9_sell 47 = .ok (.dup, 1) := by decide +kernel
theorem dX9_sell_48 : decode cX9_sell 48 = .ok (.getfield 169, 3) := by decide +kernel
theorem dX9_sell_51 : decode cX9_sell 51 = .ok (.iload_n 1, 1) := by decide +kernel
theorem dX9_sell_52 : decode cX9_sell 52 = .ok (.i2l, 1) := by decide +kernel
theorem dX9_sell_53 : decode cX9_sell 53 = .ok (.ladd, 1) := by decide +kernel
theorem dX9_sell_54 : decode cX9_sell 54 = .ok (.putfield 169, 3) := by decide +kernel
theorem dX9_sell_57 : decode cX9_sell 57 = .ok (.aload_n 0, 1) := by decide +kernel
theorem dX9_sell_58 : decode cX9_sell 58 = .ok (.getfield 10, 3) := by decide +kernel
theorem dX9_sell_61 : decode cX9_sell 61 = .ok (.getfield 49, 3) := by decide +kernel
theorem dX9_sell_64 : decode cX9_sell 64 = .ok (.iload_n 1, 1) := by decide +kernel
theorem dX9_sell_65 : decode cX9_sell 65 = .ok (.invokevirtual 172, 3) := by decide +kernel
theorem dX9_sell_68 : decode cX9_sell 68 = .ok (.ireturn, 1) := by decide +kernel
set_option maxRecDepth 20000 in
theorem ggX9_spill_X2_boxAt : GoodIn wsX9_spill wsX2_boxAt := goodIn_r _ [10, 11, 12, 13, 14, 15, 37, 38] (by decide +kernel) (by decide +kernel)
set_option maxRecDepth 20000 in
theorem gX9_spill_X2_boxAt : GoodIn wsX9_spill (wsV RX9 77 RX2 yX2_boxAt wsX2_boxAt) := goodIn_app (goodIn_of _ (by decide +kernel)) ggX9_spill_X2_boxAt
set_option maxRecDepth 20000 in
theorem ggX9_spill_X9_within : GoodIn wsX9_spill wsX9_within := goodIn_r _ [15] (by decide +kernel) (by decide +kernel)
set_option maxRecDepth 20000 in
theorem gX9_spill_X9_within : GoodIn wsX9_spill (va_wsS RX9 43 yX9_within wsX9_within) := goodIn_app (goodIn_of _ (by decide +kernel)) ggX9_spill_X9_within
theorem dX9_spill_0 : decode cX9_spill 0 = .ok (.aload_n 0, 1) := by decide +kernel
theorem dX9_spill_1 : decode cX9_spill 1 = .ok (.getfield 10, 3) := by decide +kernel
theorem dX9_spill_4 : decode cX9_spill 4 = .ok (.getfield 49, 3) := by decide +kernel
theorem dX9_spill_7 : decode cX9_spill 7 = .ok (.iload_n 1, 1) := by decide +kernel
theorem dX9_spill_8 : decode cX9_spill 8 = .ok (.invokevirtual 77, 3) := by decide +kernel
theorem dX9_spill_11 : decode cX9_spill 11 = .ok (.astore_n 3, 1) := by decide +kernel
theorem dX9_spill_12 : decode cX9_spill 12 = .ok (.aload_n 3, 1) := by decide +kernel
theorem dX9_spill_13 : decode cX9_spill 13 = .ok (.ifnonnull 5, 3) := by decide +kernel
theorem dX9_spill_16 : decode cX9_spill 16 = .ok (.iconst (-1), 1) := by decide +kernel
theorem dX9_spill_17 : decode cX9_spill 17 = .ok (.ireturn, 1) := by decide +kernel
theorem dX9_spill_18 : decode cX9_spill 18 = .ok (.iload_n 2, 1) := by decide +kernel
theorem dX9_spill_19 : decode cX9_spill 19 = .ok (.iconst 1, 1) := by decide +kernel
theorem dX9_spill_20 : decode cX9_spill 20 = .ok (.ldc 48, 2) := by decide +kernel
theorem dX9_spill_22 : decode cX9_spill 22 = .ok (.invokestatic 43, 3) := by decide +kernel
theorem dX9_spill_25 : decode cX9_spill 25 = .ok (.ifCond .eq 11, 3) := by decide +kernel
theorem dX9_spill_28 : decode cX9_spill 28 = .ok (.iload_n 2, 1) := by decide +kernel
theorem dX9_spill_29 : decode cX9_spill 29 = .ok (.aload_n 3, 1) := by decide +kernel
theorem dX9_spill_30 : decode cX9_spill 30 = .ok (.getfield 81, 3) := by decide +kernel
theorem dX9_spill_33 : decode cX9_spill 33 = .ok (.if_icmp .le 6, 3) := by decide +kernel
theorem dX9_spill_36 : decode cX9_spill 36 = .ok (.bipush (-2), 2) := by decide +kernel
theorem dX9_spill_38 : decode cX9_spill 38 = .ok (.ireturn, 1) := by decide +kernel
theorem dX9_spill_39 : decode cX9_spill 39 = .ok (.aload_n 3, 1) := by decide +kernel
theorem dX9_spill_40 : decode cX9_spill 40 = .ok (.dup, 1) := by decide +kernel
theorem dX9_spill_41 : decode cX9_spill 41 = .ok (.getfield 81, 3) := by decide +kernel
theorem dX9_spill_44 : decode cX9_spill 44 = .ok (.iload_n 2, 1) := by decide +kernel
theorem dX9_spill_45 : decode cX9_spill 45 = .ok (.isub, 1) := by decide +kernel
theorem dX9_spill_46 : decode cX9_spill 46 = .ok (.putfield 81, 3) := by decide +kernel
theorem dX9_spill_49 : decode cX9_spill 49 = .ok (.aload_n 0, 1) := by decide +kernel
theorem dX9_spill_50 : decode cX9_spill 50 = .ok (.getfield 10, 3) := by decide +kernel
theorem dX9_spill_53 : decode cX9_spill 53 = .ok (.dup, 1) := by decide +kernel
theorem dX9_spill_54 : decode cX9_spill 54 = .ok (.getfield 176, 3) := by decide +kernel
theorem dX9_spill_57 : decode cX9_spill 57 = .ok (.iload_n 2, 1) := by decide +kernel
theorem dX9_spill_58 : decode cX9_spill 58 = .ok (.i2l, 1) := by decide +kernel
theorem dX9_spill_59 : decode cX9_spill 59 = .ok (.ladd, 1) := by decide +kernel
theorem dX9_spill_60 : decode cX9_spill 60 = .ok (.putfield 176, 3) := by decide +kernel
theorem dX9_spill_63 : decode cX9_spill 63 = .ok (.aload_n 3, 1) := by decide +kernel
theorem dX9_spill_64 : decode cX9_spill 64 = .ok (.getfield 81, 3) := by decide +kernel
theorem dX9_spill_67 : decode cX9_spill 67 = .ok (.ireturn, 1) := by decide +kernel
set_option maxRecDepth 20000 in
theorem ggX9_weigh_X2_boxAt : GoodIn wsX9_weigh wsX2_boxAt := goodIn_r _ [10, 11, 12, 13, 14, 15, 42, 43] (by decide +kernel) (by decide +kernel)
set_option maxRecDepth 20000 in
theorem gX9_weigh_X2_boxAt : GoodIn wsX9_weigh (wsV RX9 77 RX2 yX2_boxAt wsX2_boxAt) := goodIn_app (goodIn_of _ (by decide +kernel)) ggX9_weigh_X2_boxAt
set_option maxRecDepth 20000 in
theorem ggX9_weigh_X4_isOnTheWay : GoodIn wsX9_weigh wsX4_isOnTheWay := goodIn_r _ [20, 21, 44, 45, 46, 47, 48] (by decide +kernel) (by decide +kernel)
set_option maxRecDepth 20000 in
theorem gX9_weigh_X4_isOnTheWay : GoodIn wsX9_weigh (wsV RX9 124 RX4 yX4_isOnTheWay wsX4_isOnTheWay) := goodIn_app (goodIn_of _ (by decide +kernel)) ggX9_weigh_X4_isOnTheWay
theorem dX9_weigh_0 : decode cX9_weigh 0 = .ok (.aload_n 0, 1) := by decide +kernel
theorem dX9_weigh_1 : decode cX9_weigh 1 = .ok (.getfield 10, 3) := by decide +kernel
theorem dX9_weigh_4 : decode cX9_weigh 4 = .ok (.getfield 49, 3) := by decide +kernel
theorem dX9_weigh_7 : decode cX9_weigh 7 = .ok (.iload_n 1, 1) := by decide +kernel
theorem dX9_weigh_8 : decode cX9_weigh 8 = .ok (.invokevirtual 77, 3) := by decide +kernel
theorem dX9_weigh_11 : decode cX9_weigh 11 = .ok (.astore_n 2, 1) := by decide +kernel
theorem dX9_weigh_12 : decode cX9_weigh 12 = .ok (.aload_n 2, 1) := by decide +kernel
theorem dX9_weigh_13 : decode cX9_weigh 13 = .ok (.ifnonnull 5, 3) := by decide +kernel
theorem dX9_weigh_16 : decode cX9_weigh 16 = .ok (.iconst (-1), 1) := by decide +kernel
theorem dX9_weigh_17 : decode cX9_weigh 17 = .ok (.ireturn, 1) := by decide +kernel
theorem dX9_weigh_18 : decode cX9_weigh 18 = .ok (.aload_n 0, 1) := by decide +kernel
theorem dX9_weigh_19 : decode cX9_weigh 19 = .ok (.getfield 10, 3) := by decide +kernel
theorem dX9_weigh_22 : decode cX9_weigh 22 = .ok (.getfield 111, 3) := by decide +kernel
theorem dX9_weigh_25 : decode cX9_weigh 25 = .ok (.invokevirtual 124, 3) := by decide +kernel
theorem dX9_weigh_28 : decode cX9_weigh 28 = .ok (.ifCond .eq 8, 3) := by decide +kernel
theorem dX9_weigh_31 : decode cX9_weigh 31 = .ok (.bipush (-5), 2) := by decide +kernel
theorem dX9_weigh_33 : decode cX9_weigh 33 = .ok (.goto 12, 3) := by decide +kernel
theorem dX9_weigh_36 : decode cX9_weigh 36 = .ok (.aload_n 2, 1) := by decide +kernel
theorem dX9_weigh_37 : decode cX9_weigh 37 = .ok (.getfield 179, 3) := by decide +kernel
theorem dX9_weigh_40 : decode cX9_weigh 40 = .ok (.aload_n 2, 1) := by decide +kernel
theorem dX9_weigh_41 : decode cX9_weigh 41 = .ok (.getfield 81, 3) := by decide +kernel
theorem dX9_weigh_44 : decode cX9_weigh 44 = .ok (.iadd, 1) := by decide +kernel
theorem dX9_weigh_45 : decode cX9_weigh 45 = .ok (.ireturn, 1) := by decide +kernel
set_option maxRecDepth 20000 in
theorem ggX9_check_X2_boxAt : GoodIn wsX9_check wsX2_boxAt := goodIn_r _ [12, 13, 14, 15, 16, 17, 44, 45] (by decide +kernel) (by decide +kernel)
set_option maxRecDepth 20000 in
theorem gX9_check_X2_boxAt : GoodIn wsX9_check (wsV RX9 77 RX2 yX2_boxAt wsX2_boxAt) := goodIn_app (goodIn_of _ (by decide +kernel)) ggX9_check_X2_boxAt
set_option maxRecDepth 20000 in
theorem ggX9_check_X4_isOnTheWay : GoodIn wsX9_check wsX4_isOnTheWay := goodIn_r _ [22, 23, 46, 47, 48, 49, 50] (by decide +kernel) (by decide +kernel)
set_option maxRecDepth 20000 in
theorem gX9_check_X4_isOnTheWay : GoodIn wsX9_check (wsV RX9 124 RX4 yX4_isOnTheWay wsX4_isOnTheWay) := goodIn_app (goodIn_of _ (by decide +kernel)) ggX9_check_X4_isOnTheWay
theorem dX9_check_0 : decode cX9_check 0 = .ok (.aload_n 0, 1) := by decide +kernel
theorem dX9_check_1 : decode cX9_check 1 = .ok (.getfield 10, 3) := by decide +kernel
theorem dX9_check_4 : decode cX9_check 4 = .ok (.getfield 49, 3) := by decide +kernel
theorem dX9_check_7 : decode cX9_check 7 = .ok (.iload_n 1, 1) := by decide +kernel
theorem dX9_check_8 : decode cX9_check 8 = .ok (.invokevirtual 77, 3) := by decide +kernel
theorem dX9_check_11 : decode cX9_check 11 = .ok (.astore_n 2, 1) := by decide +kernel
theorem dX9_check_12 : decode cX9_check 12 = .ok (.aload_n 2, 1) := by decide +kernel
theorem dX9_check_13 : decode cX9_check 13 = .ok (.ifnonnull 6, 3) := by decide +kernel
theorem dX9_check_16 : decode cX9_check 16 = .ok (.ldc 182, 2) := by decide +kernel
theorem dX9_check_18 : decode cX9_check 18 = .ok (.ireturn, 1) := by decide +kernel
theorem dX9_check_19 : decode cX9_check 19 = .ok (.aload_n 0, 1) := by decide +kernel
theorem dX9_check_20 : decode cX9_check 20 = .ok (.getfield 10, 3) := by decide +kernel
theorem dX9_check_23 : decode cX9_check 23 = .ok (.getfield 111, 3) := by decide +kernel
theorem dX9_check_26 : decode cX9_check 26 = .ok (.invokevirtual 124, 3) := by decide +kernel
theorem dX9_check_29 : decode cX9_check 29 = .ok (.ifCond .eq 6, 3) := by decide +kernel
theorem dX9_check_32 : decode cX9_check 32 = .ok (.ldc 183, 2) := by decide +kernel
theorem dX9_check_34 : decode cX9_check 34 = .ok (.ireturn, 1) := by decide +kernel
theorem dX9_check_35 : decode cX9_check 35 = .ok (.aload_n 2, 1) := by decide +kernel
theorem dX9_check_36 : decode cX9_check 36 = .ok (.getfield 184, 3) := by decide +kernel
theorem dX9_check_39 : decode cX9_check 39 = .ok (.aload_n 2, 1) := by decide +kernel
theorem dX9_check_40 : decode cX9_check 40 = .ok (.getfield 81, 3) := by decide +kernel
theorem dX9_check_43 : decode cX9_check 43 = .ok (.isub, 1) := by decide +kernel
theorem dX9_check_44 : decode cX9_check 44 = .ok (.istore_n 3, 1) := by decide +kernel
theorem dX9_check_45 : decode cX9_check 45 = .ok (.aload_n 2, 1) := by decide +kernel
theorem dX9_check_46 : decode cX9_check 46 = .ok (.aload_n 2, 1) := by decide +kernel
theorem dX9_check_47 : decode cX9_check 47 = .ok (.getfield 81, 3) := by decide +kernel
theorem dX9_check_50 : decode cX9_check 50 = .ok (.putfield 184, 3) := by decide +kernel
theorem dX9_check_53 : decode cX9_check 53 = .ok (.iload_n 3, 1) := by decide +kernel
theorem dX9_check_54 : decode cX9_check 54 = .ok (.ireturn, 1) := by decide +kernel
set_option maxRecDepth 20000 in
theorem ggX9_box_X2_boxAt : GoodIn wsX9_box wsX2_boxAt := goodIn_r _ [14, 15, 16, 17, 18, 19, 70, 71] (by decide +kernel) (by decide +kernel)
set_option maxRecDepth 20000 in
theorem gX9_box_X2_boxAt : GoodIn wsX9_box (wsV RX9 77 RX2 yX2_boxAt wsX2_boxAt) := goodIn_app (goodIn_of _ (by decide +kernel)) ggX9_box_X2_boxAt
set_option maxRecDepth 20000 in
theorem ggX9_box_X6_value : GoodIn wsX9_box wsX6_value := goodIn_r _ [24, 25, 17, 18, 19, 72] (by decide +kernel) (by decide +kernel)
set_option maxRecDepth 20000 in
theorem gX9_box_X6_value : GoodIn wsX9_box (wsV RX9 193 RX6 yX6_value wsX6_value) := goodIn_app (goodIn_of _ (by decide +kernel)) ggX9_box_X6_value
set_option maxRecDepth 20000 in
theorem ggX9_box_X0_goingOff : GoodIn wsX9_box wsX0_goingOff := goodIn_r _ [30, 31, 32, 33, 34, 35, 36, 37, 38, 39, 40, 41, 18, 42, 59, 60, 61, 62] (by decide +kernel) (by decide +kernel)
set_option maxRecDepth 20000 in
theorem gX9_box_X0_goingOff : GoodIn wsX9_box (wsV RX9 196 RX0 yX0_goingOff wsX0_goingOff) := goodIn_app (goodIn_of _ (by decide +kernel)) ggX9_box_X0_goingOff
theorem dX9_box_0 : decode cX9_box 0 = .ok (.aload_n 0, 1) := by decide +kernel
theorem dX9_box_1 : decode cX9_box 1 = .ok (.getfield 10, 3) := by decide +kernel
theorem dX9_box_4 : decode cX9_box 4 = .ok (.getfield 49, 3) := by decide +kernel
theorem dX9_box_7 : decode cX9_box 7 = .ok (.iload_n 1, 1) := by decide +kernel
theorem dX9_box_8 : decode cX9_box 8 = .ok (.invokevirtual 77, 3) := by decide +kernel
theorem dX9_box_11 : decode cX9_box 11 = .ok (.astore_n 3, 1) := by decide +kernel
theorem dX9_box_12 : decode cX9_box 12 = .ok (.aload_n 3, 1) := by decide +kernel
theorem dX9_box_13 : decode cX9_box 13 = .ok (.ifnonnull 5, 3) := by decide +kernel
theorem dX9_box_16 : decode cX9_box 16 = .ok (.iconst (-1), 1) := by decide +kernel
theorem dX9_box_17 : decode cX9_box 17 = .ok (.ireturn, 1) := by decide +kernel
theorem dX9_box_18 : decode cX9_box 18 = .ok (.iload_n 2, 1) := by decide +kernel
theorem dX9_box_19 : decode cX9_box 19 = .ok (.tableswitch 79 0 4 #[33, 38, 43, 48, 53], 33) := by decide +kernel
theorem dX9_box_52 : decode cX9_box 52 = .ok (.aload_n 3, 1) := by decide +kernel
theorem dX9_box_53 : decode cX9_box 53 = .ok (.getfield 187, 3) := by decide +kernel
theorem dX9_box_56 : decode cX9_box 56 = .ok (.ireturn, 1) := by decide +kernel
theorem dX9_box_57 : decode cX9_box 57 = .ok (.aload_n 3, 1) := by decide +kernel
theorem dX9_box_58 : decode cX9_box 58 = .ok (.getfield 179, 3) := by decide +kernel
theorem dX9_box_61 : decode cX9_box 61 = .ok (.ireturn, 1) := by decide +kernel
theorem dX9_box_62 : decode cX9_box 62 = .ok (.aload_n 3, 1) := by decide +kernel
theorem dX9_box_63 : decode cX9_box 63 = .ok (.getfield 81, 3) := by decide +kernel
theorem dX9_box_66 : decode cX9_box 66 = .ok (.ireturn, 1) := by decide +kernel
theorem dX9_box_67 : decode cX9_box 67 = .ok (.aload_n 3, 1) := by decide +kernel
theorem dX9_box_68 : decode cX9_box 68 = .ok (.getfield 184, 3) := by decide +kernel
theorem dX9_box_71 : decode cX9_box 71 = .ok (.ireturn, 1) := by decide +kernel
theorem dX9_box_72 : decode cX9_box 72 = .ok (.aload_n 3, 1) := by decide +kernel
theorem dX9_box_73 : decode cX9_box 73 = .ok (.aload_n 0, 1) := by decide +kernel
theorem dX9_box_74 : decode cX9_box 74 = .ok (.getfield 10, 3) := by decide +kernel
theorem dX9_box_77 : decode cX9_box 77 = .ok (.getfield 59, 3) := by decide +kernel
theorem dX9_box_80 : decode cX9_box 80 = .ok (.getfield 190, 3) := by decide +kernel
theorem dX9_box_83 : decode cX9_box 83 = .ok (.aload_n 0, 1) := by decide +kernel
theorem dX9_box_84 : decode cX9_box 84 = .ok (.getfield 10, 3) := by decide +kernel
theorem dX9_box_87 : decode cX9_box 87 = .ok (.getfield 97, 3) := by decide +kernel
theorem dX9_box_90 : decode cX9_box 90 = .ok (.iconst 0, 1) := by decide +kernel
theorem dX9_box_91 : decode cX9_box 91 = .ok (.invokevirtual 193, 3) := by decide +kernel
theorem dX9_box_94 : decode cX9_box 94 = .ok (.invokevirtual 196, 3) := by decide +kernel
theorem dX9_box_97 : decode cX9_box 97 = .ok (.ireturn, 1) := by decide +kernel
theorem dX9_box_98 : decode cX9_box 98 = .ok (.bipush (-2), 2) := by decide +kernel
theorem dX9_box_100 : decode cX9_box 100 = .ok (.ireturn, 1) := by decide +kernel
set_option maxRecDepth 20000 in
theorem ggX9_van_X9_within : GoodIn wsX9_van wsX9_within := goodIn_r _ [25] (by decide +kernel) (by decide +kernel)
set_option maxRecDepth 20000 in
theorem gX9_van_X9_within : GoodIn wsX9_van (va_wsS RX9 43 yX9_within wsX9_within) := goodIn_app (goodIn_of _ (by decide +kernel)) ggX9_van_X9_within
set_option maxRecDepth 20000 in
theorem ggX9_van_X6_value : GoodIn wsX9_van wsX6_value := goodIn_r _ [30, 31, 23, 24, 25, 93] (by decide +kernel) (by decide +kernel)
set_option maxRecDepth 20000 in
theorem gX9_van_X6_value : GoodIn wsX9_van (wsV RX9 193 RX6 yX6_value wsX6_value) := goodIn_app (goodIn_of _ (by decide +kernel)) ggX9_van_X6_value
set_option maxRecDepth 20000 in
theorem ggX9_van_X4_outsideNow : GoodIn wsX9_van wsX4_outsideNow := goodIn_r _ [36, 37, 38, 39, 40, 41, 35, 42, 43, 23, 24, 25, 84, 85, 86, 87, 88] (by decide +kernel) (by decide +kernel)
set_option maxRecDepth 20000 in
theorem gX9_van_X4_outsideNow : GoodIn wsX9_van (wsV RX9 200 RX4 yX4_outsideNow wsX4_outsideNow) := goodIn_app (goodIn_of _ (by decide +kernel)) ggX9_van_X4_outsideNow
set_option maxRecDepth 20000 in
theorem ggX9_van_X8_concentration : GoodIn wsX9_van wsX8_concentration := goodIn_r _ [48, 49, 50, 51, 52, 53, 54, 55, 56, 57, 58, 27, 28, 29, 30, 31, 23, 24, 25, 59, 60, 67, 68, 69, 70, 71, 72, 73, 74, 75, 76, 77, 78, 79, 80, 81, 82, 83, 93] (by decide +kernel) (by decide +kernel)
set_option maxRecDepth 20000 in
theorem gX9_van_X8_concentration : GoodIn wsX9_van (wsV RX9 160 RX8 yX8_concentration wsX8_concentration) := goodIn_app (goodIn_of _ (by decide +kernel)) ggX9_van_X8_concentration
theorem dX9_van_0 : decode cX9_van 0 = .ok (.iload_n 1, 1) := by decide +kernel
theorem dX9_van_1 : decode cX9_van 1 = .ok (.iconst 0, 1) := by decide +kernel
theorem dX9_van_2 : decode cX9_van 2 = .ok (.bipush 25, 2) := by decide +kernel
theorem dX9_van_4 : decode cX9_van 4 = .ok (.invokestatic 43, 3) := by decide +kernel
theorem dX9_van_7 : decode cX9_van 7 = .ok (.ifCond .ne 6, 3) := by decide +kernel
theorem dX9_van_10 : decode cX9_van 10 = .ok (.ldc 199, 2) := by decide +kernel
theorem dX9_van_12 : decode cX9_van 12 = .ok (.ireturn, 1) := by decide +kernel
theorem dX9_van_13 : decode cX9_van 13 = .ok (.iload_n 1, 1) := by decide +kernel
theorem dX9_van_14 : decode cX9_van 14 = .ok (.bipush 15, 2) := by decide +kernel
theorem dX9_van_16 : decode cX9_van 16 = .ok (.if_icmp .lt 18, 3) := by decide +kernel
theorem dX9_van_19 : decode cX9_van 19 = .ok (.aload_n 0, 1) := by decide +kernel
theorem dX9_van_20 : decode cX9_van 20 = .ok (.getfield 10, 3) := by decide +kernel
theorem dX9_van_23 : decode cX9_van 23 = .ok (.getfield 97, 3) := by decide +kernel
theorem dX9_van_26 : decode cX9_van 26 = .ok (.iload_n 1, 1) := by decide +kernel
theorem dX9_van_27 : decode cX9_van 27 = .ok (.bipush 15, 2) := by decide +kernel
theorem dX9_van_29 : decode cX9_van 29 = .ok (.isub, 1) := by decide +kernel
theorem dX9_van_30 : decode cX9_van 30 = .ok (.invokevirtual 193, 3) := by decide +kernel
theorem dX9_van_33 : decode cX9_van 33 = .ok (.ireturn, 1) := by decide +kernel
theorem dX9_van_34 : decode cX9_van 34 = .ok (.iload_n 1, 1) := by decide +kernel
theorem dX9_van_35 : decode cX9_van 35 = .ok (.tableswitch 253 0 13 #[69, 77, 88, 99, 111, 120, 131, 150, 161, 180, 209, 220, 231, 242], 69) := by decide +kernel
theorem dX9_van_104 : decode cX9_van 104 = .ok (.aload_n 0, 1) := by decide +kernel
theorem dX9_van_105 : decode cX9_van 105 = .ok (.getfield 10, 3) := by decide +kernel
theorem dX9_van_108 : decode cX9_van 108 = .ok (.getfield 133, 3) := by decide +kernel
theorem dX9_van_111 : decode cX9_van 111 = .ok (.ireturn, 1) := by decide +kernel
theorem dX9_van_112 : decode cX9_van 112 = .ok (.aload_n 0, 1) := by decide +kernel
theorem dX9_van_113 : decode cX9_van 113 = .ok (.getfield 10, 3) := by decide +kernel
theorem dX9_van_116 : decode cX9_van 116 = .ok (.getfield 59, 3) := by decide +kernel
theorem dX9_van_119 : decode cX9_van 119 = .ok (.getfield 190, 3) := by decide +kernel
theorem dX9_van_122 : decode cX9_van 122 = .ok (.ireturn, 1) := by decide +kernel
theorem dX9_van_123 : decode cX9_van 123 = .ok (.aload_n 0, 1) := by decide +kernel
theorem dX9_van_124 : decode cX9_van 124 = .ok (.getfield 10, 3) := by decide +kernel
theorem dX9_van_127 : decode cX9_van 127 = .ok (.getfield 111, 3) := by decide +kernel
theorem dX9_van_130 : decode cX9_van 130 = .ok (.invokevirtual 200, 3) := by decide +kernel
theorem dX9_van_133 : decode cX9_van 133 = .ok (.ireturn, 1) := by decide +kernel
theorem dX9_van_134 : decode cX9_van 134 = .ok (.aload_n 0, 1) := by decide +kernel
theorem dX9_van_135 : decode cX9_van 135 = .ok (.getfield 10, 3) := by decide +kernel
theorem dX9_van_138 : decode cX9_van 138 = .ok (.getfield 59, 3) := by decide +kernel
theorem dX9_van_141 : decode cX9_van 141 = .ok (.getfield 203, 3) := by decide +kernel
theorem dX9_van_144 : decode cX9_van 144 = .ok (.l2i, 1) := by decide +kernel
theorem dX9_van_145 : decode cX9_van 145 = .ok (.ireturn, 1) := by decide +kernel
theorem dX9_van_146 : decode cX9_van 146 = .ok (.aload_n 0, 1) := by decide +kernel
theorem dX9_van_147 : decode cX9_van 147 = .ok (.getfield 10, 3) := by decide +kernel
theorem dX9_van_150 : decode cX9_van 150 = .ok (.invokevirtual 160, 3) := by decide +kernel
theorem dX9_van_153 : decode cX9_van 153 = .ok (.l2i, 1) := by decide +kernel
theorem dX9_van_154 : decode cX9_van 154 = .ok (.ireturn, 1) := by decide +kernel
theorem dX9_van_155 : decode cX9_van 155 = .ok (.aload_n 0, 1) := by decide +kernel
theorem dX9_van_156 : decode cX9_van 156 = .ok (.getfield 10, 3) := by decide +kernel
theorem dX9_van_159 : decode cX9_van 159 = .ok (.getfield 59, 3) := by decide +kernel
theorem dX9_van_162 : decode cX9_van 162 = .ok (.getfield 148, 3) := by decide +kernel
theorem dX9_van_165 : decode cX9_van 165 = .ok (.ireturn, 1) := by decide +kernel
theorem dX9_van_166 : decode cX9_van 166 = .ok (.aload_n 0, 1) := by decide +kernel
theorem dX9_van_167 : decode cX9_van 167 = .ok (.getfield 10, 3) := by decide +kernel
theorem dX9_van_170 : decode cX9_van 170 = .ok (.getfield 59, 3) := by decide +kernel
theorem dX9_van_173 : decode cX9_van 173 = .ok (.getfield 206, 3) := by decide +kernel
theorem dX9_van_176 : decode cX9_van 176 = .ok (.ifCond .eq 7, 3) := by decide +kernel
theorem dX9_van_179 : decode cX9_van 179 = .ok (.iconst 1, 1) := by decide +kernel
theorem dX9_van_180 : decode cX9_van 180 = .ok (.goto 4, 3) := by decide +kernel
theorem dX9_van_183 : decode cX9_van 183 = .ok (.iconst 0, 1) := by decide +kernel
theorem dX9_van_184 : decode cX9_van 184 = .ok (.ireturn, 1) := by decide +kernel
theorem dX9_van_185 : decode cX9_van 185 = .ok (.aload_n 0, 1) := by decide +kernel
theorem dX9_van_186 : decode cX9_van 186 = .ok (.getfield 10, 3) := by decide +kernel
theorem dX9_van_189 : decode cX9_van 189 = .ok (.getfield 59, 3) := by decide +kernel
theorem dX9_van_192 : decode cX9_van 192 = .ok (.getfield 209, 3) := by decide +kernel
theorem dX9_van_195 : decode cX9_van 195 = .ok (.ireturn, 1) := by decide +kernel
theorem dX9_van_196 : decode cX9_van 196 = .ok (.aload_n 0, 1) := by decide +kernel
theorem dX9_van_197 : decode cX9_van 197 = .ok (.getfield 10, 3) := by decide +kernel
theorem dX9_van_200 : decode cX9_van 200 = .ok (.getfield 59, 3) := by decide +kernel
theorem dX9_van_203 : decode cX9_van 203 = .ok (.getfield 63, 3) := by decide +kernel
theorem dX9_van_206 : decode cX9_van 206 = .ok (.ifCond .eq 7, 3) := by decide +kernel
theorem dX9_van_209 : decode cX9_van 209 = .ok (.iconst 1, 1) := by decide +kernel
theorem dX9_van_210 : decode cX9_van 210 = .ok (.goto 4, 3) := by decide +kernel
theorem dX9_van_213 : decode cX9_van 213 = .ok (.iconst 0, 1) := by decide +kernel
theorem dX9_van_214 : decode cX9_van 214 = .ok (.ireturn, 1) := by decide +kernel
theorem dX9_van_215 : decode cX9_van 215 = .ok (.aload_n 0, 1) := by decide +kernel
theorem dX9_van_216 : decode cX9_van 216 = .ok (.getfield 10, 3) := by decide +kernel
theorem dX9_van_219 : decode cX9_van 219 = .ok (.getfield 111, 3) := by decide +kernel
theorem dX9_van_222 : decode cX9_van 222 = .ok (.getfield 130, 3) := by decide +kernel
theorem dX9_van_225 : decode cX9_van 225 = .ok (.ifCond .ge 8, 3) := by decide +kernel
theorem dX9_van_228 : decode cX9_van 228 = .ok (.ldc 212, 2) := by decide +kernel
theorem dX9_van_230 : decode cX9_van 230 = .ok (.goto 13, 3) := by decide +kernel
theorem dX9_van_233 : decode cX9_van 233 = .ok (.aload_n 0, 1) := by decide +kernel
theorem dX9_van_234 : decode cX9_van 234 = .ok (.getfield 10, 3) := by decide +kernel
theorem dX9_van_237 : decode cX9_van 237 = .ok (.getfield 111, 3) := by decide +kernel
theorem dX9_van_240 : decode cX9_van 240 = .ok (.getfield 130, 3) := by decide +kernel
theorem dX9_van_243 : decode cX9_van 243 = .ok (.ireturn, 1) := by decide +kernel
theorem dX9_van_244 : decode cX9_van 244 = .ok (.aload_n 0, 1) := by decide +kernel
theorem dX9_van_245 : decode cX9_van 245 = .ok (.getfield 10, 3) := by decide +kernel
theorem dX9_van_248 : decode cX9_van 248 = .ok (.getfield 111, 3) := by decide +kernel
theorem dX9_van_251 : decode cX9_van 251 = .ok (.getfield 137, 3) := by decide +kernel
theorem dX9_van_254 : decode cX9_van 254 = .ok (.ireturn, 1) := by decide +kernel
theorem dX9_van_255 : decode cX9_van 255 = .ok (.aload_n 0, 1) := by decide +kernel
theorem dX9_van_256 : decode cX9_van 256 = .ok (.getfield 10, 3) := by decide +kernel
theorem dX9_van_259 : decode cX9_van 259 = .ok (.getfield 59, 3) := by decide +kernel
theorem dX9_van_262 : decode cX9_van 262 = .ok (.getfield 213, 3) := by decide +kernel
theorem dX9_van_265 : decode cX9_van 265 = .ok (.ireturn, 1) := by decide +kernel
theorem dX9_van_266 : decode cX9_van 266 = .ok (.aload_n 0, 1) := by decide +kernel
theorem dX9_van_267 : decode cX9_van 267 = .ok (.getfield 10, 3) := by decide +kernel
theorem dX9_van_270 : decode cX9_van 270 = .ok (.getfield 49, 3) := by decide +kernel
theorem dX9_van_273 : decode cX9_van 273 = .ok (.getfield 53, 3) := by decide +kernel
theorem dX9_van_276 : decode cX9_van 276 = .ok (.ireturn, 1) := by decide +kernel
theorem dX9_van_277 : decode cX9_van 277 = .ok (.aload_n 0, 1) := by decide +kernel
theorem dX9_van_278 : decode cX9_van 278 = .ok (.getfield 10, 3) := by decide +kernel
theorem dX9_van_281 : decode cX9_van 281 = .ok (.getfield 111, 3) := by decide +kernel
theorem dX9_van_284 : decode cX9_van 284 = .ok (.getfield 115, 3) := by decide +kernel
theorem dX9_van_287 : decode cX9_van 287 = .ok (.ireturn, 1) := by decide +kernel
theorem dX9_van_288 : decode cX9_van 288 = .ok (.aload_n 0, 1) := by decide +kernel
theorem dX9_van_289 : decode cX9_van 289 = .ok (.getfield 32, 3) := by decide +kernel
theorem dX9_van_292 : decode cX9_van 292 = .ok (.getfield 216, 3) := by decide +kernel
theorem dX9_van_295 : decode cX9_van 295 = .ok (.ireturn, 1) := by decide +kernel
set_option maxRecDepth 20000 in
theorem ggX9_way_X4_hasLeg : GoodIn wsX9_way wsX4_hasLeg := goodIn_r _ [9, 10, 11, 12, 13, 41, 42, 43, 44, 45] (by decide +kernel) (by decide +kernel)
set_option maxRecDepth 20000 in
theorem gX9_way_X4_hasLeg : GoodIn wsX9_way (wsV RX9 219 RX4 yX4_hasLeg wsX4_hasLeg) := goodIn_app (goodIn_of _ (by decide +kernel)) ggX9_way_X4_hasLeg
set_option maxRecDepth 20000 in
theorem ggX9_way_X4_durationOf : GoodIn wsX9_way wsX4_durationOf := goodIn_r _ [17, 18, 19, 6, 7, 8, 9, 10, 11, 12, 13, 41, 42, 43, 44, 45] (by decide +kernel) (by decide +kernel)
set_option maxRecDepth 20000 in
theorem gX9_way_X4_durationOf : GoodIn wsX9_way (wsV RX9 223 RX4 yX4_durationOf wsX4_durationOf) := goodIn_app (goodIn_of _ (by decide +kernel)) ggX9_way_X4_durationOf
set_option maxRecDepth 20000 in
theorem ggX9_way_X4_outsideOf : GoodIn wsX9_way wsX4_outsideOf := goodIn_r _ [23, 24, 19, 6, 7, 8, 9, 10, 11, 12, 13, 41, 42, 43, 44, 45] (by decide +kernel) (by decide +kernel)
set_option maxRecDepth 20000 in
theorem gX9_way_X4_outsideOf : GoodIn wsX9_way (wsV RX9 226 RX4 yX4_outsideOf wsX4_outsideOf) := goodIn_app (goodIn_of _ (by decide +kernel)) ggX9_way_X4_outsideOf
