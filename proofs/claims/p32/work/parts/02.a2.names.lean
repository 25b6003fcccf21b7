theorem dX0_init_0 : decode cX0_init 0 = .ok (.aload_n 0, 1) := by decide +kernel
theorem dX0_init_1 : decode cX0_init 1 = .ok (.invokespecial 3, 3) := by decide +kernel
theorem dX0_init_4 : decode cX0_init 4 = .ok (.return_, 1) := by decide +kernel
set_option maxRecDepth 20000 in
theorem ggX0_goingOff_X9_quotient : GoodIn wsX0_goingOff wsX9_quotient := goodIn_r _ [13] (by decide +kernel) (by decide +kernel)
set_option maxRecDepth 20000 in
theorem gX0_goingOff_X9_quotient_n26 : GoodIn wsX0_goingOff (wsX9_quotient) := ggX0_goingOff_X9_quotient
theorem dX0_goingOff_0 : decode cX0_goingOff 0 = .ok (.iload_n 1, 1) := by decide +kernel
theorem dX0_goingOff_1 : decode cX0_goingOff 1 = .ok (.sipush (-8000), 3) := by decide +kernel
theorem dX0_goingOff_4 : decode cX0_goingOff 4 = .ok (.isub, 1) := by decide +kernel
theorem dX0_goingOff_5 : decode cX0_goingOff 5 = .ok (.i2l, 1) := by decide +kernel
theorem dX0_goingOff_6 : decode cX0_goingOff 6 = .ok (.iload_n 2, 1) := by decide +kernel
theorem dX0_goingOff_7 : decode cX0_goingOff 7 = .ok (.i2l, 1) := by decide +kernel
theorem dX0_goingOff_8 : decode cX0_goingOff 8 = .ok (.lmul, 1) := by decide +kernel
theorem dX0_goingOff_9 : decode cX0_goingOff 9 = .ok (.ldc2_w 24, 3) := by decide +kernel
theorem dX0_goingOff_12 : decode cX0_goingOff 12 = .ok (.aload_n 0, 1) := by decide +kernel
theorem dX0_goingOff_13 : decode cX0_goingOff 13 = .ok (.getfield 9, 3) := by decide +kernel
theorem dX0_goingOff_16 : decode cX0_goingOff 16 = .ok (.i2l, 1) := by decide +kernel
theorem dX0_goingOff_17 : decode cX0_goingOff 17 = .ok (.lmul, 1) := by decide +kernel
theorem dX0_goingOff_18 : decode cX0_goingOff 18 = .ok (.invokestatic 26, 3) := by decide +kernel
theorem dX0_goingOff_21 : decode cX0_goingOff 21 = .ok (.lstore_n 3, 1) := by decide +kernel
theorem dX0_goingOff_22 : decode cX0_goingOff 22 = .ok (.lload_n 3, 1) := by decide +kernel
theorem dX0_goingOff_23 : decode cX0_goingOff 23 = .ok (.lconst 0, 1) := by decide +kernel
theorem dX0_goingOff_24 : decode cX0_goingOff 24 = .ok (.invokestatic 30, 3) := by decide +kernel
theorem dX0_goingOff_27 : decode cX0_goingOff 27 = .ok (.aload_n 0, 1) := by decide +kernel
theorem dX0_goingOff_28 : decode cX0_goingOff 28 = .ok (.getfield 18, 3) := by decide +kernel
theorem dX0_goingOff_31 : decode cX0_goingOff 31 = .ok (.i2l, 1) := by decide +kernel
theorem dX0_goingOff_32 : decode cX0_goingOff 32 = .ok (.invokestatic 35, 3) := by decide +kernel
theorem dX0_goingOff_35 : decode cX0_goingOff 35 = .ok (.l2i, 1) := by decide +kernel
theorem dX0_goingOff_36 : decode cX0_goingOff 36 = .ok (.ireturn, 1) := by decide +kernel
theorem dX0_take_0 : decode cX0_take 0 = .ok (.aload_n 0, 1) := by decide +kernel
theorem dX0_take_1 : decode cX0_take 1 = .ok (.dup, 1) := by decide +kernel
theorem dX0_take_2 : decode cX0_take 2 = .ok (.getfield 18, 3) := by decide +kernel
theorem dX0_take_5 : decode cX0_take 5 = .ok (.iload_n 1, 1) := by decide +kernel
theorem dX0_take_6 : decode cX0_take 6 = .ok (.isub, 1) := by decide +kernel
theorem dX0_take_7 : decode cX0_take 7 = .ok (.putfield 18, 3) := by decide +kernel
theorem dX0_take_10 : decode cX0_take 10 = .ok (.aload_n 0, 1) := by decide +kernel
theorem dX0_take_11 : decode cX0_take 11 = .ok (.aload_n 0, 1) := by decide +kernel
theorem dX0_take_12 : decode cX0_take 12 = .ok (.getfield 21, 3) := by decide +kernel
theorem dX0_take_15 : decode cX0_take 15 = .ok (.iload_n 1, 1) := by decide +kernel
theorem dX0_take_16 : decode cX0_take 16 = .ok (.isub, 1) := by decide +kernel
theorem dX0_take_17 : decode cX0_take 17 = .ok (.iconst 0, 1) := by decide +kernel
theorem dX0_take_18 : decode cX0_take 18 = .ok (.invokestatic 38, 3) := by decide +kernel
theorem dX0_take_21 : decode cX0_take 21 = .ok (.putfield 21, 3) := by decide +kernel
theorem dX0_take_24 : decode cX0_take 24 = .ok (.return_, 1) := by decide +kernel
theorem dX1_init_0 : decode cX1_init 0 = .ok (.aload_n 0, 1) := by decide +kernel
theorem dX1_init_1 : decode cX1_init 1 = .ok (.invokespecial 3, 3) := by decide +kernel
theorem dX1_init_4 : decode cX1_init 4 = .ok (.aload_n 0, 1) := by decide +kernel
theorem dX1_init_5 : decode cX1_init 5 = .ok (.sipush 2000, 3) := by decide +kernel
theorem dX1_init_8 : decode cX1_init 8 = .ok (.putfield 9, 3) := by decide +kernel
theorem dX1_init_11 : decode cX1_init 11 = .ok (.aload_n 0, 1) := by decide +kernel
theorem dX1_init_12 : decode cX1_init 12 = .ok (.iconst 0, 1) := by decide +kernel
theorem dX1_init_13 : decode cX1_init 13 = .ok (.putfield 15, 3) := by decide +kernel
theorem dX1_init_16 : decode cX1_init 16 = .ok (.return_, 1) := by decide +kernel
set_option maxRecDepth 20000 in
theorem ggX1_concentration_X6_value : GoodIn wsX1_concentration wsX6_value := goodIn_r _ [7, 8, 9, 10, 11, 21] (by decide +kernel) (by decide +kernel)
set_option maxRecDepth 20000 in
theorem gX1_concentration_X6_value : GoodIn wsX1_concentration (wsV RX1 37 RX6 yX6_value wsX6_value) := goodIn_app (goodIn_of _ (by decide +kernel)) ggX1_concentration_X6_value
set_option maxRecDepth 20000 in
theorem ggX1_concentration_X9_quotient : GoodIn wsX1_concentration wsX9_quotient := goodIn_r _ [13] (by decide +kernel) (by decide +kernel)
set_option maxRecDepth 20000 in
theorem gX1_concentration_X9_quotient_n43 : GoodIn wsX1_concentration (wsX9_quotient) := ggX1_concentration_X9_quotient
theorem dX1_concentration_0 : decode cX1_concentration 0 = .ok (.aload_n 0, 1) := by decide +kernel
theorem dX1_concentration_1 : decode cX1_concentration 1 = .ok (.getfield 18, 3) := by decide +kernel
theorem dX1_concentration_4 : decode cX1_concentration 4 = .ok (.ldc2_w 35, 3) := by decide +kernel
theorem dX1_concentration_7 : decode cX1_concentration 7 = .ok (.aload_n 1, 1) := by decide +kernel
theorem dX1_concentration_8 : decode cX1_concentration 8 = .ok (.iconst 1, 1) := by decide +kernel
theorem dX1_concentration_9 : decode cX1_concentration 9 = .ok (.invokevirtual 37, 3) := by decide +kernel
theorem dX1_concentration_12 : decode cX1_concentration 12 = .ok (.i2l, 1) := by decide +kernel
theorem dX1_concentration_13 : decode cX1_concentration 13 = .ok (.lmul, 1) := by decide +kernel
theorem dX1_concentration_14 : decode cX1_concentration 14 = .ok (.invokestatic 43, 3) := by decide +kernel
theorem dX1_concentration_17 : decode cX1_concentration 17 = .ok (.lreturn, 1) := by decide +kernel
set_option maxRecDepth 20000 in
theorem ggX1_setVentMode_X1_keepToMode : GoodIn wsX1_setVentMode wsX1_keepToMode := goodIn_r _ [6, 1, 7, 8, 9, 5, 10, 11, 12, 13, 14, 15, 16, 17, 18, 19, 20, 21, 22, 23] (by decide +kernel) (by decide +kernel)
set_option maxRecDepth 20000 in
theorem gX1_setVentMode_X1_keepToMode : GoodIn wsX1_setVentMode (wsV RX1 47 RX1 yX1_keepToMode wsX1_keepToMode) := goodIn_app (goodIn_of _ (by decide +kernel)) ggX1_setVentMode_X1_keepToMode
theorem dX1_setVentMode_0 : decode cX1_setVentMode 0 = .ok (.aload_n 0, 1) := by decide +kernel
theorem dX1_setVentMode_1 : decode cX1_setVentMode 1 = .ok (.iload_n 1, 1) := by decide +kernel
theorem dX1_setVentMode_2 : decode cX1_setVentMode 2 = .ok (.putfield 15, 3) := by decide +kernel
theorem dX1_setVentMode_5 : decode cX1_setVentMode 5 = .ok (.aload_n 0, 1) := by decide +kernel
theorem dX1_setVentMode_6 : decode cX1_setVentMode 6 = .ok (.invokevirtual 47, 3) := by decide +kernel
theorem dX1_setVentMode_9 : decode cX1_setVentMode 9 = .ok (.return_, 1) := by decide +kernel
set_option maxRecDepth 20000 in
theorem ggX1_keepToMode_X1_openVent : GoodIn wsX1_keepToMode wsX1_openVent := goodIn_r _ [6, 7, 13, 14, 15, 16, 17, 18, 19] (by decide +kernel) (by decide +kernel)
set_option maxRecDepth 20000 in
theorem gX1_keepToMode_X1_openVent : GoodIn wsX1_keepToMode (wsV RX1 50 RX1 yX1_openVent wsX1_openVent) := goodIn_app (goodIn_of _ (by decide +kernel)) ggX1_keepToMode_X1_openVent
set_option maxRecDepth 20000 in
theorem ggX1_keepToMode_X1_shutVent : GoodIn wsX1_keepToMode wsX1_shutVent := goodIn_r _ [11, 7, 12, 13, 14, 15, 16, 17, 18, 19] (by decide +kernel) (by decide +kernel)
set_option maxRecDepth 20000 in
theorem gX1_keepToMode_X1_shutVent : GoodIn wsX1_keepToMode (wsV RX1 53 RX1 yX1_shutVent wsX1_shutVent) := goodIn_app (goodIn_of _ (by decide +kernel)) ggX1_keepToMode_X1_shutVent
theorem dX1_keepToMode_0 : decode cX1_keepToMode 0 = .ok (.aload_n 0, 1) := by decide +kernel
theorem dX1_keepToMode_1 : decode cX1_keepToMode 1 = .ok (.getfield 15, 3) := by decide +kernel
theorem dX1_keepToMode_4 : decode cX1_keepToMode 4 = .ok (.iconst 2, 1) := by decide +kernel
theorem dX1_keepToMode_5 : decode cX1_keepToMode 5 = .ok (.if_icmp .ne 10, 3) := by decide +kernel
theorem dX1_keepToMode_8 : decode cX1_keepToMode 8 = .ok (.aload_n 0, 1) := by decide +kernel
theorem dX1_keepToMode_9 : decode cX1_keepToMode 9 = .ok (.invokevirtual 50, 3) := by decide +kernel
theorem dX1_keepToMode_12 : decode cX1_keepToMode 12 = .ok (.goto 15, 3) := by decide +kernel
theorem dX1_keepToMode_15 : decode cX1_keepToMode 15 = .ok (.aload_n 0, 1) := by decide +kernel
theorem dX1_keepToMode_16 : decode cX1_keepToMode 16 = .ok (.getfield 15, 3) := by decide +kernel
theorem dX1_keepToMode_19 : decode cX1_keepToMode 19 = .ok (.iconst 1, 1) := by decide +kernel
theorem dX1_keepToMode_20 : decode cX1_keepToMode 20 = .ok (.if_icmp .ne 7, 3) := by decide +kernel
theorem dX1_keepToMode_23 : decode cX1_keepToMode 23 = .ok (.aload_n 0, 1) := by decide +kernel
theorem dX1_keepToMode_24 : decode cX1_keepToMode 24 = .ok (.invokevirtual 53, 3) := by decide +kernel
theorem dX1_keepToMode_27 : decode cX1_keepToMode 27 = .ok (.return_, 1) := by decide +kernel
