theorem dX0_init_0 : decode cX0_init 0 = .ok (.aload_n 0, 1) := by decide +kernel
theorem dX0_init_1 : decode cX0_init 1 = .ok (.invokespecial 3, 3) := by decide +kernel
theorem dX0_init_4 : decode cX0_init 4 = .ok (.return_, 1) := by decide +kernel
theorem dX0_becomeLike_0 : decode cX0_becomeLike 0 = .ok (.aload_n 0, 1) := by decide +kernel
theorem dX0_becomeLike_1 : decode cX0_becomeLike 1 = .ok (.aload_n 1, 1) := by decide +kernel
theorem dX0_becomeLike_2 : decode cX0_becomeLike 2 = .ok (.getfield 9, 3) := by decide +kernel
theorem dX0_becomeLike_5 : decode cX0_becomeLike 5 = .ok (.putfield 9, 3) := by decide +kernel
theorem dX0_becomeLike_8 : decode cX0_becomeLike 8 = .ok (.aload_n 0, 1) := by decide +kernel
theorem dX0_becomeLike_9 : decode cX0_becomeLike 9 = .ok (.aload_n 1, 1) := by decide +kernel
theorem dX0_becomeLike_10 : decode cX0_becomeLike 10 = .ok (.getfield 15, 3) := by decide +kernel
theorem dX0_becomeLike_13 : decode cX0_becomeLike 13 = .ok (.putfield 15, 3) := by decide +kernel
theorem dX0_becomeLike_16 : decode cX0_becomeLike 16 = .ok (.aload_n 0, 1) := by decide +kernel
theorem dX0_becomeLike_17 : decode cX0_becomeLike 17 = .ok (.aload_n 1, 1) := by decide +kernel
theorem dX0_becomeLike_18 : decode cX0_becomeLike 18 = .ok (.getfield 18, 3) := by decide +kernel
theorem dX0_becomeLike_21 : decode cX0_becomeLike 21 = .ok (.putfield 18, 3) := by decide +kernel
theorem dX0_becomeLike_24 : decode cX0_becomeLike 24 = .ok (.aload_n 0, 1) := by decide +kernel
theorem dX0_becomeLike_25 : decode cX0_becomeLike 25 = .ok (.aload_n 1, 1) := by decide +kernel
theorem dX0_becomeLike_26 : decode cX0_becomeLike 26 = .ok (.getfield 21, 3) := by decide +kernel
theorem dX0_becomeLike_29 : decode cX0_becomeLike 29 = .ok (.putfield 21, 3) := by decide +kernel
theorem dX0_becomeLike_32 : decode cX0_becomeLike 32 = .ok (.return_, 1) := by decide +kernel
set_option maxRecDepth 20000 in
theorem ggX0_goingOff_X9_quotient : GoodIn wsX0_goingOff wsX9_quotient := goodIn_r _ [13] (by decide +kernel) (by decide +kernel)
set_option maxRecDepth 20000 in
theorem gX0_goingOff_X9_quotient_n26 : GoodIn wsX0_goingOff (wsX9_quotient) := ggX0_goingOff_X9_quotient
theorem dX0_goingOff_0 : decode cX0_goingOff 0 = .ok (.iload_n 1, 1) := by decide +kernel
theorem dX0_goingOff_1 : decode cX0_goingOff 1 = .ok (.sipush (-8000), 3) := by decide +kernel
theorem dX0_goingOff_4 : decode cX0_goingOff 4 = .ok (.isub, 1) := by decide +kernel
theorem dX0_goingOff_5 : decode cX0_goingOff 5 = .ok (.i2l, 1) := by decide +kernel
theorem dX0_goingOff_6 : decode cX0_goingOff 6 = .ok (.iload_n 2, 1) := by decide +kernel
theorem dX0_goingOff_7 : decode cX0_goingOff 7 = .ok (.i2l, 1) := by decide +kernel
theorem dX0_goingOff_8 : decode cX0_goingOff 8 = .ok (.lmul, 1) := by decide +kernel
theorem dX0_goingOff_9 : decode cX0_goingOff 9 = .ok (.ldc2_w 24, 3) := by decide +kernel
theorem dX0_goingOff_12 : decode cX0_goingOff 12 = .ok (.aload_n 0, 1) := by decide +kernel
theorem dX0_goingOff_13 : decode cX0_goingOff 13 = .ok (.getfield 9, 3) := by decide +kernel
theorem dX0_goingOff_16 : decode cX0_goingOff 16 = .ok (.i2l, 1) := by decide +kernel
theorem dX0_goingOff_17 : decode cX0_goingOff 17 = .ok (.lmul, 1) := by decide +kernel
theorem dX0_goingOff_18 : decode cX0_goingOff 18 = .ok (.invokestatic 26, 3) := by decide +kernel
theorem dX0_goingOff_21 : decode cX0_goingOff 21 = .ok (.lstore_n 3, 1) := by decide +kernel
theorem dX0_goingOff_22 : decode cX0_goingOff 22 = .ok (.lload_n 3, 1) := by decide +kernel
theorem dX0_goingOff_23 : decode cX0_goingOff 23 = .ok (.lconst 0, 1) := by decide +kernel
theorem dX0_goingOff_24 : decode cX0_goingOff 24 = .ok (.invokestatic 30, 3) := by decide +kernel
theorem dX0_goingOff_27 : decode cX0_goingOff 27 = .ok (.aload_n 0, 1) := by decide +kernel
theorem dX0_goingOff_28 : decode cX0_goingOff 28 = .ok (.getfield 18, 3) := by decide +kernel
theorem dX0_goingOff_31 : decode cX0_goingOff 31 = .ok (.i2l, 1) := by decide +kernel
theorem dX0_goingOff_32 : decode cX0_goingOff 32 = .ok (.invokestatic 35, 3) := by decide +kernel
theorem dX0_goingOff_35 : decode cX0_goingOff 35 = .ok (.l2i, 1) := by decide +kernel
theorem dX0_goingOff_36 : decode cX0_goingOff 36 = .ok (.ireturn, 1) := by decide +kernel
theorem dX0_take_0 : decode cX0_take 0 = .ok (.aload_n 0, 1) := by decide +kernel
theorem dX0_take_1 : decode cX0_take 1 = .ok (.dup, 1) := by decide +kernel
theorem dX0_take_2 : decode cX0_take 2 = .ok (.getfield 18, 3) := by decide +kernel
theorem dX0_take_5 : decode cX0_take 5 = .ok (.iload_n 1, 1) := by decide +kernel
theorem dX0_take_6 : decode cX0_take 6 = .ok (.isub, 1) := by decide +kernel
theorem dX0_take_7 : decode cX0_take 7 = .ok (.putfield 18, 3) := by decide +kernel
theorem dX0_take_10 : decode cX0_take 10 = .ok (.aload_n 0, 1) := by decide +kernel
theorem dX0_take_11 : decode cX0_take 11 = .ok (.aload_n 0, 1) := by decide +kernel
theorem dX0_take_12 : decode cX0_take 12 = .ok (.getfield 21, 3) := by decide +kernel
theorem dX0_take_15 : decode cX0_take 15 = .ok (.iload_n 1, 1) := by decide +kernel
theorem dX0_take_16 : decode cX0_take 16 = .ok (.isub, 1) := by decide +kernel
theorem dX0_take_17 : decode cX0_take 17 = .ok (.iconst 0, 1) := by decide +kernel
theorem dX0_take_18 : decode cX0_take 18 = .ok (.invokestatic 38, 3) := by decide +kernel
theorem dX0_take_21 : decode cX0_take 21 = .ok (.putfield 21, 3) := by decide +kernel
theorem dX0_take_24 : decode cX0_take 24 = .ok (.return_, 1) := by decide +kernel
theorem dX1_init_0 : decode cX1_init 0 = .ok (.aload_n 0, 1) := by decide +kernel
theorem dX1_init_1 : decode cX1_init 1 = .ok (.invokespecial 3, 3) := by decide +kernel
theorem dX1_init_4 : decode cX1_init 4 = .ok (.aload_n 0, 1) := by decide +kernel
theorem dX1_init_5 : decode cX1_init 5 = .ok (.sipush 2000, 3) := by decide +kernel
theorem dX1_init_8 : decode cX1_init 8 = .ok (.putfield 9, 3) := by decide +kernel
theorem dX1_init_11 : decode cX1_init 11 = .ok (.aload_n 0, 1) := by decide +kernel
theorem dX1_init_12 : decode cX1_init 12 = .ok (.iconst 0, 1) := by decide +kernel
theorem dX1_init_13 : decode cX1_init 13 = .ok (.putfield 15, 3) := by decide +kernel
theorem dX1_init_16 : decode cX1_init 16 = .ok (.return_, 1) := by decide +kernel
theorem dX1_becomeLike_0 : decode cX1_becomeLike 0 = .ok (.aload_n 0, 1) := by decide +kernel
theorem dX1_becomeLike_1 : decode cX1_becomeLike 1 = .ok (.aload_n 1, 1) := by decide +kernel
theorem dX1_becomeLike_2 : decode cX1_becomeLike 2 = .ok (.getfield 9, 3) := by decide +kernel
theorem dX1_becomeLike_5 : decode cX1_becomeLike 5 = .ok (.putfield 9, 3) := by decide +kernel
theorem dX1_becomeLike_8 : decode cX1_becomeLike 8 = .ok (.aload_n 0, 1) := by decide +kernel
theorem dX1_becomeLike_9 : decode cX1_becomeLike 9 = .ok (.aload_n 1, 1) := by decide +kernel
theorem dX1_becomeLike_10 : decode cX1_becomeLike 10 = .ok (.getfield 18, 3) := by decide +kernel
theorem dX1_becomeLike_13 : decode cX1_becomeLike 13 = .ok (.putfield 18, 3) := by decide +kernel
theorem dX1_becomeLike_16 : decode cX1_becomeLike 16 = .ok (.aload_n 0, 1) := by decide +kernel
theorem dX1_becomeLike_17 : decode cX1_becomeLike 17 = .ok (.aload_n 1, 1) := by decide +kernel
theorem dX1_becomeLike_18 : decode cX1_becomeLike 18 = .ok (.getfield 15, 3) := by decide +kernel
theorem dX1_becomeLike_21 : decode cX1_becomeLike 21 = .ok (.putfield 15, 3) := by decide +kernel
theorem dX1_becomeLike_24 : decode cX1_becomeLike 24 = .ok (.aload_n 0, 1) := by decide +kernel
theorem dX1_becomeLike_25 : decode cX1_becomeLike 25 = .ok (.aload_n 1, 1) := by decide +kernel
theorem dX1_becomeLike_26 : decode cX1_becomeLike 26 = .ok (.getfield 22, 3) := by decide +kernel
theorem dX1_becomeLike_29 : decode cX1_becomeLike 29 = .ok (.putfield 22, 3) := by decide +kernel
theorem dX1_becomeLike_32 : decode cX1_becomeLike 32 = .ok (.aload_n 0, 1) := by decide +kernel
theorem dX1_becomeLike_33 : decode cX1_becomeLike 33 = .ok (.aload_n 1, 1) := by decide +kernel
theorem dX1_becomeLike_34 : decode cX1_becomeLike 34 = .ok (.getfield 26, 3) := by decide +kernel
theorem dX1_becomeLike_37 : decode cX1_becomeLike 37 = .ok (.putfield 26, 3) := by decide +kernel
theorem dX1_becomeLike_40 : decode cX1_becomeLike 40 = .ok (.aload_n 0, 1) := by decide +kernel
theorem dX1_becomeLike_41 : decode cX1_becomeLike 41 = .ok (.aload_n 1, 1) := by decide +kernel
theorem dX1_becomeLike_42 : decode cX1_becomeLike 42 = .ok (.getfield 29, 3) := by decide +kernel
theorem dX1_becomeLike_45 : decode cX1_becomeLike 45 = .ok (.putfield 29, 3) := by decide +kernel
theorem dX1_becomeLike_48 : decode cX1_becomeLike 48 = .ok (.aload_n 0, 1) := by decide +kernel
theorem dX1_becomeLike_49 : decode cX1_becomeLike 49 = .ok (.aload_n 1, 1) := by decide +kernel
theorem dX1_becomeLike_50 : decode cX1_becomeLike 50 = .ok (.getfield 32, 3) := by decide +kernel
theorem dX1_becomeLike_53 : decode cX1_becomeLike 53 = .ok (.putfield 32, 3) := by decide +kernel
theorem dX1_becomeLike_56 : decode cX1_becomeLike 56 = .ok (.return_, 1) := by decide +kernel
set_option maxRecDepth 20000 in
theorem ggX1_concentration_X6_value : GoodIn wsX1_concentration wsX6_value := goodIn_r _ [7, 8, 9, 10, 11, 21] (by decide +kernel) (by decide +kernel)
set_option maxRecDepth 20000 in
theorem gX1_concentration_X6_value : GoodIn wsX1_concentration (wsV RX1 37 RX6 yX6_value wsX6_value) := goodIn_app (goodIn_of _ (by decide +kernel)) ggX1_concentration_X6_value
set_option maxRecDepth 20000 in
theorem ggX1_concentration_X9_quotient : GoodIn wsX1_concentration wsX9_quotient := goodIn_r _ [13] (by decide +kernel) (by decide +kernel)
set_option maxRecDepth 20000 in
theorem gX1_concentration_X9_quotient_n43 : GoodIn wsX1_concentration (wsX9_quotient) := ggX1_concentration_X9_quotient
theorem dX1_concentration_0 : decode cX1_concentration 0 = .ok (.aload_n 0, 1) := by decide +kernel
theorem dX1_concentration_1 : decode cX1_concentration 1 = .ok (.getfield 18, 3) := by decide +kernel
theorem dX1_concentration_4 : decode cX1_concentration 4 = .ok (.ldc2_w 35, 3) := by decide +kernel
theorem dX1_concentration_7 : decode cX1_concentration 7 = .ok (.aload_n 1, 1) := by decide +kernel
theorem dX1_concentration_8 : decode cX1_concentration 8 = .ok (.iconst 1, 1) := by decide +kernel
theorem dX1_concentration_9 : decode cX1_concentration 9 = .ok (.invokevirtual 37, 3) := by decide +kernel
theorem dX1_concentration_12 : decode cX1_concentration 12 = .ok (.i2l, 1) := by decide +kernel
theorem dX1_concentration_13 : decode cX1_concentration 13 = .ok (.lmul, 1) := by decide +kernel
theorem dX1_concentration_14 : decode cX1_concentration 14 = .ok (.invokestatic 43, 3) := by decide +kernel
theorem dX1_concentration_17 : decode cX1_concentration 17 = .ok (.lreturn, 1) := by decide +kernel
set_option maxRecDepth 20000 in
theorem ggX1_setVentMode_X1_keepToMode : GoodIn wsX1_setVentMode wsX1_keepToMode := goodIn_r _ [6, 1, 7, 8, 9, 5, 10, 11, 12, 13, 14, 15, 16, 17, 18, 19, 20, 21, 22, 23] (by decide +kernel) (by decide +kernel)
set_option maxRecDepth 20000 in
theorem gX1_setVentMode_X1_keepToMode : GoodIn wsX1_setVentMode (wsV RX1 47 RX1 yX1_keepToMode wsX1_keepToMode) := goodIn_app (goodIn_of _ (by decide +kernel)) ggX1_setVentMode_X1_keepToMode
theorem dX1_setVentMode_0 : decode cX1_setVentMode 0 = .ok (.aload_n 0, 1) := by decide +kernel
theorem dX1_setVentMode_1 : decode cX1_setVentMode 1 = .ok (.iload_n 1, 1) := by decide +kernel
theorem dX1_setVentMode_2 : decode cX1_setVentMode 2 = .ok (.putfield 15, 3) := by decide +kernel
theorem dX1_setVentMode_5 : decode cX1_setVentMode 5 = .ok (.aload_n 0, 1) := by decide +kernel
theorem dX1_setVentMode_6 : decode cX1_setVentMode 6 = .ok (.invokevirtual 47, 3) := by decide +kernel
theorem dX1_setVentMode_9 : decode cX1_setVentMode 9 = .ok (.return_, 1) := by decide +kernel
set_option maxRecDepth 20000 in
theorem ggX1_keepToMode_X1_openVent : GoodIn wsX1_keepToMode wsX1_openVent := goodIn_r _ [6, 7, 13, 14, 15, 16, 17, 18, 19] (by decide +kernel) (by decide +kernel)
set_option maxRecDepth 20000 in
theorem gX1_keepToMode_X1_openVent : GoodIn wsX1_keepToMode (wsV RX1 50 RX1 yX1_openVent wsX1_openVent) := goodIn_app (goodIn_of _ (by decide +kernel)) ggX1_keepToMode_X1_openVent
set_option maxRecDepth 20000 in
theorem ggX1_keepToMode_X1_shutVent : GoodIn wsX1_keepToMode wsX1_shutVent := goodIn_r _ [11, 7, 12, 13, 14, 15, 16, 17, 18, 19] (by decide +kernel) (by decide +kernel)
set_option maxRecDepth 20000 in
theorem gX1_keepToMode_X1_shutVent : GoodIn wsX1_keepToMode (wsV RX1 53 RX1 yX1_shutVent wsX1_shutVent) := goodIn_app (goodIn_of _ (by decide +kernel)) ggX1_keepToMode_X1_shutVent
theorem dX1_keepToMode_0 : decode cX1_keepToMode 0 = .ok (.aload_n 0, 1) := by decide +kernel
theorem dX1_keepToMode_1 : decode cX1_keepToMode 1 = .ok (.getfield 15, 3) := by decide +kernel
theorem dX1_keepToMode_4 : decode cX1_keepToMode 4 = .ok (.iconst 2, 1) := by decide +kernel
theorem dX1_keepToMode_5 : decode cX1_keepToMode 5 = .ok (.if_icmp .ne 10, 3) := by decide +kernel
theorem dX1_keepToMode_8 : decode cX1_keepToMode 8 = .ok (.aload_n 0, 1) := by decide +kernel
theorem dX1_keepToMode_9 : decode cX1_keepToMode 9 = .ok (.invokevirtual 50, 3) := by decide +kernel
theorem dX1_keepToMode_12 : decode cX1_keepToMode 12 = .ok (.goto 15, 3) := by decide +kernel
theorem dX1_keepToMode_15 : decode cX1_keepToMode 15 = .ok (.aload_n 0, 1) := by decide +kernel
theorem dX1_keepToMode_16 : decode cX1_keepToMode 16 = .ok (.getfield 15, 3) := by decide +kernel
theorem dX1_keepToMode_19 : decode cX1_keepToMode 19 = .ok (.iconst 1, 1) := by decide +kernel
theorem dX1_keepToMode_20 : decode cX1_keepToMode 20 = .ok (.if_icmp .ne 7, 3) := by decide +kernel
theorem dX1_keepToMode_23 : decode cX1_keepToMode 23 = .ok (.aload_n 0, 1) := by decide +kernel
theorem dX1_keepToMode_24 : decode cX1_keepToMode 24 = .ok (.invokevirtual 53, 3) := by decide +kernel
theorem dX1_keepToMode_27 : decode cX1_keepToMode 27 = .ok (.return_, 1) := by decide +kernel
theorem dX1_openVent_0 : decode cX1_openVent 0 = .ok (.aload_n 0, 1) := by decide +kernel
theorem dX1_openVent_1 : decode cX1_openVent 1 = .ok (.iconst 1, 1) := by decide +kernel
theorem dX1_openVent_2 : decode cX1_openVent 2 = .ok (.putfield 22, 3) := by decide +kernel
theorem dX1_openVent_5 : decode cX1_openVent 5 = .ok (.return_, 1) := by decide +kernel
theorem dX1_shutVent_0 : decode cX1_shutVent 0 = .ok (.aload_n 0, 1) := by decide +kernel
theorem dX1_shutVent_1 : decode cX1_shutVent 1 = .ok (.iconst 0, 1) := by decide +kernel
theorem dX1_shutVent_2 : decode cX1_shutVent 2 = .ok (.putfield 22, 3) := by decide +kernel
theorem dX1_shutVent_5 : decode cX1_shutVent 5 = .ok (.aload_n 0, 1) := by decide +kernel
theorem dX1_shutVent_6 : decode cX1_shutVent 6 = .ok (.iconst 0, 1) := by decide +kernel
theorem dX1_shutVent_7 : decode cX1_shutVent 7 = .ok (.putfield 26, 3) := by decide +kernel
theorem dX1_shutVent_10 : decode cX1_shutVent 10 = .ok (.return_, 1) := by decide +kernel
set_option maxRecDepth 20000 in
theorem ggX1_letMinutePass_X1_changeTemperature : GoodIn wsX1_letMinutePass wsX1_changeTemperature := goodIn_r _ [8, 9, 10, 2, 11, 12, 13, 14, 15, 16, 17, 18, 19, 20, 21, 22, 23, 24, 25, 26, 27, 28, 57, 58, 59, 60, 61, 62, 63, 64] (by decide +kernel) (by decide +kernel)
set_option maxRecDepth 20000 in
theorem gX1_letMinutePass_X1_changeTemperature : GoodIn wsX1_letMinutePass (wsV RX1 56 RX1 yX1_changeTemperature wsX1_changeTemperature) := goodIn_app (goodIn_of _ (by decide +kernel)) ggX1_letMinutePass_X1_changeTemperature
set_option maxRecDepth 20000 in
theorem ggX1_letMinutePass_X1_loseGas : GoodIn wsX1_letMinutePass wsX1_loseGas := goodIn_r _ [32, 1, 33, 10, 2, 18, 19, 20, 21, 22, 23, 24, 25, 26, 57, 58, 59, 60, 61, 62, 63, 64] (by decide +kernel) (by decide +kernel)
set_option maxRecDepth 20000 in
theorem gX1_letMinutePass_X1_loseGas : GoodIn wsX1_letMinutePass (wsV RX1 60 RX1 yX1_loseGas wsX1_loseGas) := goodIn_app (goodIn_of _ (by decide +kernel)) ggX1_letMinutePass_X1_loseGas
set_option maxRecDepth 20000 in
theorem ggX1_letMinutePass_X1_concentration : GoodIn wsX1_letMinutePass wsX1_concentration := goodIn_r _ [37, 1, 38, 18, 19, 20, 21, 22, 23, 24, 25, 26, 27, 28, 57, 58, 59, 60, 61, 62, 63, 64] (by decide +kernel) (by decide +kernel)
set_option maxRecDepth 20000 in
theorem gX1_letMinutePass_X1_concentration : GoodIn wsX1_letMinutePass (wsV RX1 64 RX1 yX1_concentration wsX1_concentration) := goodIn_app (goodIn_of _ (by decide +kernel)) ggX1_letMinutePass_X1_concentration
set_option maxRecDepth 20000 in
theorem ggX1_letMinutePass_X1_moveVent : GoodIn wsX1_letMinutePass wsX1_moveVent := goodIn_r _ [42, 43, 10, 44, 45, 46, 47, 7, 48, 49, 50, 51, 52, 53, 54, 55, 56, 18, 19, 20, 21, 22, 23, 24, 25, 26, 57, 58, 59, 60, 61, 62, 63, 64] (by decide +kernel) (by decide +kernel)
set_option maxRecDepth 20000 in
theorem gX1_letMinutePass_X1_moveVent : GoodIn wsX1_letMinutePass (wsV RX1 68 RX1 yX1_moveVent wsX1_moveVent) := goodIn_app (goodIn_of _ (by decide +kernel)) ggX1_letMinutePass_X1_moveVent
set_option maxRecDepth 20000 in
theorem ggX1_letMinutePass_X6_value : GoodIn wsX1_letMinutePass wsX6_value := goodIn_r _ [22, 23, 24, 25, 26, 64] (by decide +kernel) (by decide +kernel)
set_option maxRecDepth 20000 in
theorem gX1_letMinutePass_X6_value : GoodIn wsX1_letMinutePass (wsV RX1 37 RX6 yX6_value wsX6_value) := goodIn_app (goodIn_of _ (by decide +kernel)) ggX1_letMinutePass_X6_value
theorem dX1_letMinutePass_0 : decode cX1_letMinutePass 0 = .ok (.aload_n 0, 1) := by decide +kernel
theorem dX1_letMinutePass_1 : decode cX1_letMinutePass 1 = .ok (.dup, 1) := by decide +kernel
theorem dX1_letMinutePass_2 : decode cX1_letMinutePass 2 = .ok (.getfield 18, 3) := by decide +kernel
theorem dX1_letMinutePass_5 : decode cX1_letMinutePass 5 = .ok (.iload_n 1, 1) := by decide +kernel
theorem dX1_letMinutePass_6 : decode cX1_letMinutePass 6 = .ok (.i2l, 1) := by decide +kernel
theorem dX1_letMinutePass_7 : decode cX1_letMinutePass 7 = .ok (.ladd, 1) := by decide +kernel
theorem dX1_letMinutePass_8 : decode cX1_letMinutePass 8 = .ok (.putfield 18, 3) := by decide +kernel
theorem dX1_letMinutePass_11 : decode cX1_letMinutePass 11 = .ok (.aload_n 0, 1) := by decide +kernel
theorem dX1_letMinutePass_12 : decode cX1_letMinutePass 12 = .ok (.iload_n 1, 1) := by decide +kernel
theorem dX1_letMinutePass_13 : decode cX1_letMinutePass 13 = .ok (.iload_n 2, 1) := by decide +kernel
theorem dX1_letMinutePass_14 : decode cX1_letMinutePass 14 = .ok (.aload_n 3, 1) := by decide +kernel
theorem dX1_letMinutePass_15 : decode cX1_letMinutePass 15 = .ok (.invokevirtual 56, 3) := by decide +kernel
theorem dX1_letMinutePass_18 : decode cX1_letMinutePass 18 = .ok (.aload_n 0, 1) := by decide +kernel
theorem dX1_letMinutePass_19 : decode cX1_letMinutePass 19 = .ok (.aload_n 3, 1) := by decide +kernel
theorem dX1_letMinutePass_20 : decode cX1_letMinutePass 20 = .ok (.invokevirtual 60, 3) := by decide +kernel
theorem dX1_letMinutePass_23 : decode cX1_letMinutePass 23 = .ok (.aload_n 0, 1) := by decide +kernel
theorem dX1_letMinutePass_24 : decode cX1_letMinutePass 24 = .ok (.aload_n 3, 1) := by decide +kernel
theorem dX1_letMinutePass_25 : decode cX1_letMinutePass 25 = .ok (.invokevirtual 64, 3) := by decide +kernel
theorem dX1_letMinutePass_28 : decode cX1_letMinutePass 28 = .ok (.lstore 4, 2) := by decide +kernel
theorem dX1_letMinutePass_30 : decode cX1_letMinutePass 30 = .ok (.aload_n 0, 1) := by decide +kernel
theorem dX1_letMinutePass_31 : decode cX1_letMinutePass 31 = .ok (.lload 4, 2) := by decide +kernel
theorem dX1_letMinutePass_33 : decode cX1_letMinutePass 33 = .ok (.aload_n 3, 1) := by decide +kernel
theorem dX1_letMinutePass_34 : decode cX1_letMinutePass 34 = .ok (.invokevirtual 68, 3) := by decide +kernel
theorem dX1_letMinutePass_37 : decode cX1_letMinutePass 37 = .ok (.aload_n 0, 1) := by decide +kernel
theorem dX1_letMinutePass_38 : decode cX1_letMinutePass 38 = .ok (.getfield 29, 3) := by decide +kernel
theorem dX1_letMinutePass_41 : decode cX1_letMinutePass 41 = .ok (.ifCond .eq 26, 3) := by decide +kernel
theorem dX1_letMinutePass_44 : decode cX1_letMinutePass 44 = .ok (.lload 4, 2) := by decide +kernel
theorem dX1_letMinutePass_46 : decode cX1_letMinutePass 46 = .ok (.aload_n 3, 1) := by decide +kernel
theorem dX1_letMinutePass_47 : decode cX1_letMinutePass 47 = .ok (.bipush 8, 2) := by decide +kernel
theorem dX1_letMinutePass_49 : decode cX1_letMinutePass 49 = .ok (.invokevirtual 37, 3) := by decide +kernel
theorem dX1_letMinutePass_52 : decode cX1_letMinutePass 52 = .ok (.i2l, 1) := by decide +kernel
theorem dX1_letMinutePass_53 : decode cX1_letMinutePass 53 = .ok (.lcmp, 1) := by decide +kernel
theorem dX1_letMinutePass_54 : decode cX1_letMinutePass 54 = .ok (.ifCond .lt 13, 3) := by decide +kernel
theorem dX1_letMinutePass_57 : decode cX1_letMinutePass 57 = .ok (.aload_n 0, 1) := by decide +kernel
theorem dX1_letMinutePass_58 : decode cX1_letMinutePass 58 = .ok (.dup, 1) := by decide +kernel
theorem dX1_letMinutePass_59 : decode cX1_letMinutePass 59 = .ok (.getfield 32, 3) := by decide +kernel
theorem dX1_letMinutePass_62 : decode cX1_letMinutePass 62 = .ok (.iconst 1, 1) := by decide +kernel
theorem dX1_letMinutePass_63 : decode cX1_letMinutePass 63 = .ok (.iadd, 1) := by decide +kernel
theorem dX1_letMinutePass_64 : decode cX1_letMinutePass 64 = .ok (.putfield 32, 3) := by decide +kernel
theorem dX1_letMinutePass_67 : decode cX1_letMinutePass 67 = .ok (.return_, 1) := by decide +kernel
set_option maxRecDepth 20000 in
theorem ggX1_changeTemperature_X6_value : GoodIn wsX1_changeTemperature wsX6_value := goodIn_r _ [15, 16, 17, 18, 19, 29] (by decide +kernel) (by decide +kernel)
set_option maxRecDepth 20000 in
theorem gX1_changeTemperature_X6_value : GoodIn wsX1_changeTemperature (wsV RX1 37 RX6 yX6_value wsX6_value) := goodIn_app (goodIn_of _ (by decide +kernel)) ggX1_changeTemperature_X6_value
set_option maxRecDepth 20000 in
theorem ggX1_changeTemperature_X9_quotient : GoodIn wsX1_changeTemperature wsX9_quotient := goodIn_r _ [21] (by decide +kernel) (by decide +kernel)
set_option maxRecDepth 20000 in
theorem gX1_changeTemperature_X9_quotient_n43 : GoodIn wsX1_changeTemperature (wsX9_quotient) := ggX1_changeTemperature_X9_quotient
theorem dX1_changeTemperature_0 : decode cX1_changeTemperature 0 = .ok (.aload_n 3, 1) := by decide +kernel
theorem dX1_changeTemperature_1 : decode cX1_changeTemperature 1 = .ok (.bipush 9, 2) := by decide +kernel
theorem dX1_changeTemperature_3 : decode cX1_changeTemperature 3 = .ok (.invokevirtual 37, 3) := by decide +kernel
theorem dX1_changeTemperature_6 : decode cX1_changeTemperature 6 = .ok (.istore 4, 2) := by decide +kernel
theorem dX1_changeTemperature_8 : decode cX1_changeTemperature 8 = .ok (.aload_n 0, 1) := by decide +kernel
theorem dX1_changeTemperature_9 : decode cX1_changeTemperature 9 = .ok (.dup, 1) := by decide +kernel
theorem dX1_changeTemperature_10 : decode cX1_changeTemperature 10 = .ok (.getfield 9, 3) := by decide +kernel
theorem dX1_changeTemperature_13 : decode cX1_changeTemperature 13 = .ok (.iload_n 2, 1) := by decide +kernel
theorem dX1_changeTemperature_14 : decode cX1_changeTemperature 14 = .ok (.aload_n 0, 1) := by decide +kernel
theorem dX1_changeTemperature_15 : decode cX1_changeTemperature 15 = .ok (.getfield 9, 3) := by decide +kernel
theorem dX1_changeTemperature_18 : decode cX1_changeTemperature 18 = .ok (.isub, 1) := by decide +kernel
theorem dX1_changeTemperature_19 : decode cX1_changeTemperature 19 = .ok (.i2l, 1) := by decide +kernel
theorem dX1_changeTemperature_20 : decode cX1_changeTemperature 20 = .ok (.iload 4, 2) := by decide +kernel
theorem dX1_changeTemperature_22 : decode cX1_changeTemperature 22 = .ok (.i2l, 1) := by decide +kernel
theorem dX1_changeTemperature_23 : decode cX1_changeTemperature 23 = .ok (.invokestatic 43, 3) := by decide +kernel
theorem dX1_changeTemperature_26 : decode cX1_changeTemperature 26 = .ok (.l2i, 1) := by decide +kernel
theorem dX1_changeTemperature_27 : decode cX1_changeTemperature 27 = .ok (.iadd, 1) := by decide +kernel
theorem dX1_changeTemperature_28 : decode cX1_changeTemperature 28 = .ok (.putfield 9, 3) := by decide +kernel
theorem dX1_changeTemperature_31 : decode cX1_changeTemperature 31 = .ok (.aload_n 0, 1) := by decide +kernel
theorem dX1_changeTemperature_32 : decode cX1_changeTemperature 32 = .ok (.getfield 22, 3) := by decide +kernel
theorem dX1_changeTemperature_35 : decode cX1_changeTemperature 35 = .ok (.ifCond .eq 26, 3) := by decide +kernel
theorem dX1_changeTemperature_38 : decode cX1_changeTemperature 38 = .ok (.aload_n 0, 1) := by decide +kernel
theorem dX1_changeTemperature_39 : decode cX1_changeTemperature 39 = .ok (.dup, 1) := by decide +kernel
theorem dX1_changeTemperature_40 : decode cX1_changeTemperature 40 = .ok (.getfield 9, 3) := by decide +kernel
theorem dX1_changeTemperature_43 : decode cX1_changeTemperature 43 = .ok (.iload_n 2, 1) := by decide +kernel
theorem dX1_changeTemperature_44 : decode cX1_changeTemperature 44 = .ok (.aload_n 0, 1) := by decide +kernel
theorem dX1_changeTemperature_45 : decode cX1_changeTemperature 45 = .ok (.getfield 9, 3) := by decide +kernel
theorem dX1_changeTemperature_48 : decode cX1_changeTemperature 48 = .ok (.isub, 1) := by decide +kernel
theorem dX1_changeTemperature_49 : decode cX1_changeTemperature 49 = .ok (.i2l, 1) := by decide +kernel
theorem dX1_changeTemperature_50 : decode cX1_changeTemperature 50 = .ok (.iload 4, 2) := by decide +kernel
theorem dX1_changeTemperature_52 : decode cX1_changeTemperature 52 = .ok (.i2l, 1) := by decide +kernel
theorem dX1_changeTemperature_53 : decode cX1_changeTemperature 53 = .ok (.invokestatic 43, 3) := by decide +kernel
theorem dX1_changeTemperature_56 : decode cX1_changeTemperature 56 = .ok (.l2i, 1) := by decide +kernel
theorem dX1_changeTemperature_57 : decode cX1_changeTemperature 57 = .ok (.iadd, 1) := by decide +kernel
theorem dX1_changeTemperature_58 : decode cX1_changeTemperature 58 = .ok (.putfield 9, 3) := by decide +kernel
theorem dX1_changeTemperature_61 : decode cX1_changeTemperature 61 = .ok (.aload_n 0, 1) := by decide +kernel
theorem dX1_changeTemperature_62 : decode cX1_changeTemperature 62 = .ok (.getfield 29, 3) := by decide +kernel
theorem dX1_changeTemperature_65 : decode cX1_changeTemperature 65 = .ok (.ifCond .eq 20, 3) := by decide +kernel
theorem dX1_changeTemperature_68 : decode cX1_changeTemperature 68 = .ok (.aload_n 0, 1) := by decide +kernel
theorem dX1_changeTemperature_69 : decode cX1_changeTemperature 69 = .ok (.dup, 1) := by decide +kernel
theorem dX1_changeTemperature_70 : decode cX1_changeTemperature 70 = .ok (.getfield 9, 3) := by decide +kernel
theorem dX1_changeTemperature_73 : decode cX1_changeTemperature 73 = .ok (.iload_n 2, 1) := by decide +kernel
theorem dX1_changeTemperature_74 : decode cX1_changeTemperature 74 = .ok (.aload_n 0, 1) := by decide +kernel
theorem dX1_changeTemperature_75 : decode cX1_changeTemperature 75 = .ok (.getfield 9, 3) := by decide +kernel
theorem dX1_changeTemperature_78 : decode cX1_changeTemperature 78 = .ok (.isub, 1) := by decide +kernel
theorem dX1_changeTemperature_79 : decode cX1_changeTemperature 79 = .ok (.iconst 4, 1) := by decide +kernel
theorem dX1_changeTemperature_80 : decode cX1_changeTemperature 80 = .ok (.idiv, 1) := by decide +kernel
theorem dX1_changeTemperature_81 : decode cX1_changeTemperature 81 = .ok (.iadd, 1) := by decide +kernel
theorem dX1_changeTemperature_82 : decode cX1_changeTemperature 82 = .ok (.putfield 9, 3) := by decide +kernel
theorem dX1_changeTemperature_85 : decode cX1_changeTemperature 85 = .ok (.aload_n 0, 1) := by decide +kernel
theorem dX1_changeTemperature_86 : decode cX1_changeTemperature 86 = .ok (.getfield 9, 3) := by decide +kernel
theorem dX1_changeTemperature_89 : decode cX1_changeTemperature 89 = .ok (.iload_n 1, 1) := by decide +kernel
theorem dX1_changeTemperature_90 : decode cX1_changeTemperature 90 = .ok (.i2l, 1) := by decide +kernel
theorem dX1_changeTemperature_91 : decode cX1_changeTemperature 91 = .ok (.aload_n 3, 1) := by decide +kernel
theorem dX1_changeTemperature_92 : decode cX1_changeTemperature 92 = .ok (.bipush 10, 2) := by decide +kernel
theorem dX1_changeTemperature_94 : decode cX1_changeTemperature 94 = .ok (.invokevirtual 37, 3) := by decide +kernel
theorem dX1_changeTemperature_97 : decode cX1_changeTemperature 97 = .ok (.i2l, 1) := by decide +kernel
theorem dX1_changeTemperature_98 : decode cX1_changeTemperature 98 = .ok (.invokestatic 43, 3) := by decide +kernel
theorem dX1_changeTemperature_101 : decode cX1_changeTemperature 101 = .ok (.l2i, 1) := by decide +kernel
theorem dX1_changeTemperature_102 : decode cX1_changeTemperature 102 = .ok (.isub, 1) := by decide +kernel
theorem dX1_changeTemperature_103 : decode cX1_changeTemperature 103 = .ok (.istore 5, 2) := by decide +kernel
theorem dX1_changeTemperature_105 : decode cX1_changeTemperature 105 = .ok (.aload_n 0, 1) := by decide +kernel
theorem dX1_changeTemperature_106 : decode cX1_changeTemperature 106 = .ok (.iload 5, 2) := by decide +kernel
theorem dX1_changeTemperature_108 : decode cX1_changeTemperature 108 = .ok (.aload_n 0, 1) := by decide +kernel
theorem dX1_changeTemperature_109 : decode cX1_changeTemperature 109 = .ok (.getfield 9, 3) := by decide +kernel
theorem dX1_changeTemperature_112 : decode cX1_changeTemperature 112 = .ok (.sipush (-7900), 3) := by decide +kernel
theorem dX1_changeTemperature_115 : decode cX1_changeTemperature 115 = .ok (.invokestatic 72, 3) := by decide +kernel
theorem dX1_changeTemperature_118 : decode cX1_changeTemperature 118 = .ok (.invokestatic 78, 3) := by decide +kernel
theorem dX1_changeTemperature_121 : decode cX1_changeTemperature 121 = .ok (.putfield 9, 3) := by decide +kernel
theorem dX1_changeTemperature_124 : decode cX1_changeTemperature 124 = .ok (.return_, 1) := by decide +kernel
set_option maxRecDepth 20000 in
theorem ggX1_loseGas_X6_value : GoodIn wsX1_loseGas wsX6_value := goodIn_r _ [9, 10, 11, 12, 13, 21] (by decide +kernel) (by decide +kernel)
set_option maxRecDepth 20000 in
theorem gX1_loseGas_X6_value : GoodIn wsX1_loseGas (wsV RX1 37 RX6 yX6_value wsX6_value) := goodIn_app (goodIn_of _ (by decide +kernel)) ggX1_loseGas_X6_value
theorem dX1_loseGas_0 : decode cX1_loseGas 0 = .ok (.aload_n 0, 1) := by decide +kernel
theorem dX1_loseGas_1 : decode cX1_loseGas 1 = .ok (.dup, 1) := by decide +kernel
theorem dX1_loseGas_2 : decode cX1_loseGas 2 = .ok (.getfield 18, 3) := by decide +kernel
theorem dX1_loseGas_5 : decode cX1_loseGas 5 = .ok (.aload_n 0, 1) := by decide +kernel
theorem dX1_loseGas_6 : decode cX1_loseGas 6 = .ok (.getfield 18, 3) := by decide +kernel
theorem dX1_loseGas_9 : decode cX1_loseGas 9 = .ok (.aload_n 1, 1) := by decide +kernel
theorem dX1_loseGas_10 : decode cX1_loseGas 10 = .ok (.iconst 3, 1) := by decide +kernel
theorem dX1_loseGas_11 : decode cX1_loseGas 11 = .ok (.invokevirtual 37, 3) := by decide +kernel
theorem dX1_loseGas_14 : decode cX1_loseGas 14 = .ok (.i2l, 1) := by decide +kernel
theorem dX1_loseGas_15 : decode cX1_loseGas 15 = .ok (.lmul, 1) := by decide +kernel
theorem dX1_loseGas_16 : decode cX1_loseGas 16 = .ok (.ldc2_w 81, 3) := by decide +kernel
theorem dX1_loseGas_19 : decode cX1_loseGas 19 = .ok (.ldiv, 1) := by decide +kernel
theorem dX1_loseGas_20 : decode cX1_loseGas 20 = .ok (.lsub, 1) := by decide +kernel
theorem dX1_loseGas_21 : decode cX1_loseGas 21 = .ok (.putfield 18, 3) := by decide +kernel
theorem dX1_loseGas_24 : decode cX1_loseGas 24 = .ok (.aload_n 0, 1) := by decide +kernel
theorem dX1_loseGas_25 : decode cX1_loseGas 25 = .ok (.getfield 22, 3) := by decide +kernel
theorem dX1_loseGas_28 : decode cX1_loseGas 28 = .ok (.ifCond .eq 27, 3) := by decide +kernel
theorem dX1_loseGas_31 : decode cX1_loseGas 31 = .ok (.aload_n 0, 1) := by decide +kernel
theorem dX1_loseGas_32 : decode cX1_loseGas 32 = .ok (.dup, 1) := by decide +kernel
theorem dX1_loseGas_33 : decode cX1_loseGas 33 = .ok (.getfield 18, 3) := by decide +kernel
theorem dX1_loseGas_36 : decode cX1_loseGas 36 = .ok (.aload_n 0, 1) := by decide +kernel
theorem dX1_loseGas_37 : decode cX1_loseGas 37 = .ok (.getfield 18, 3) := by decide +kernel
theorem dX1_loseGas_40 : decode cX1_loseGas 40 = .ok (.aload_n 1, 1) := by decide +kernel
theorem dX1_loseGas_41 : decode cX1_loseGas 41 = .ok (.iconst 2, 1) := by decide +kernel
theorem dX1_loseGas_42 : decode cX1_loseGas 42 = .ok (.invokevirtual 37, 3) := by decide +kernel
theorem dX1_loseGas_45 : decode cX1_loseGas 45 = .ok (.i2l, 1) := by decide +kernel
theorem dX1_loseGas_46 : decode cX1_loseGas 46 = .ok (.lmul, 1) := by decide +kernel
theorem dX1_loseGas_47 : decode cX1_loseGas 47 = .ok (.ldc2_w 81, 3) := by decide +kernel
theorem dX1_loseGas_50 : decode cX1_loseGas 50 = .ok (.ldiv, 1) := by decide +kernel
theorem dX1_loseGas_51 : decode cX1_loseGas 51 = .ok (.lsub, 1) := by decide +kernel
theorem dX1_loseGas_52 : decode cX1_loseGas 52 = .ok (.putfield 18, 3) := by decide +kernel
theorem dX1_loseGas_55 : decode cX1_loseGas 55 = .ok (.aload_n 0, 1) := by decide +kernel
theorem dX1_loseGas_56 : decode cX1_loseGas 56 = .ok (.getfield 29, 3) := by decide +kernel
theorem dX1_loseGas_59 : decode cX1_loseGas 59 = .ok (.ifCond .eq 27, 3) := by decide +kernel
theorem dX1_loseGas_62 : decode cX1_loseGas 62 = .ok (.aload_n 0, 1) := by decide +kernel
theorem dX1_loseGas_63 : decode cX1_loseGas 63 = .ok (.dup, 1) := by decide +kernel
theorem dX1_loseGas_64 : decode cX1_loseGas 64 = .ok (.getfield 18, 3) := by decide +kernel
theorem dX1_loseGas_67 : decode cX1_loseGas 67 = .ok (.aload_n 0, 1) := by decide +kernel
theorem dX1_loseGas_68 : decode cX1_loseGas 68 = .ok (.getfield 18, 3) := by decide +kernel
theorem dX1_loseGas_71 : decode cX1_loseGas 71 = .ok (.aload_n 1, 1) := by decide +kernel
theorem dX1_loseGas_72 : decode cX1_loseGas 72 = .ok (.iconst 4, 1) := by decide +kernel
theorem dX1_loseGas_73 : decode cX1_loseGas 73 = .ok (.invokevirtual 37, 3) := by decide +kernel
theorem dX1_loseGas_76 : decode cX1_loseGas 76 = .ok (.i2l, 1) := by decide +kernel
theorem dX1_loseGas_77 : decode cX1_loseGas 77 = .ok (.lmul, 1) := by decide +kernel
theorem dX1_loseGas_78 : decode cX1_loseGas 78 = .ok (.ldc2_w 81, 3) := by decide +kernel
theorem dX1_loseGas_81 : decode cX1_loseGas 81 = .ok (.ldiv, 1) := by decide +kernel
theorem dX1_loseGas_82 : decode cX1_loseGas 82 = .ok (.lsub, 1) := by decide +kernel
theorem dX1_loseGas_83 : decode cX1_loseGas 83 = .ok (.putfield 18, 3) := by decide +kernel
theorem dX1_loseGas_86 : decode cX1_loseGas 86 = .ok (.return_, 1) := by decide +kernel
set_option maxRecDepth 20000 in
theorem ggX1_moveVent_X1_keepToMode : GoodIn wsX1_moveVent wsX1_keepToMode := goodIn_r _ [8, 1, 9, 10, 11, 7, 12, 2, 13, 14, 15, 16, 3, 26, 27, 28, 29, 30, 31, 32] (by decide +kernel) (by decide +kernel)
set_option maxRecDepth 20000 in
theorem gX1_moveVent_X1_keepToMode : GoodIn wsX1_moveVent (wsV RX1 47 RX1 yX1_keepToMode wsX1_keepToMode) := goodIn_app (goodIn_of _ (by decide +kernel)) ggX1_moveVent_X1_keepToMode
set_option maxRecDepth 20000 in
theorem ggX1_moveVent_X6_value : GoodIn wsX1_moveVent wsX6_value := goodIn_r _ [21, 22, 23, 24, 25, 33] (by decide +kernel) (by decide +kernel)
set_option maxRecDepth 20000 in
theorem gX1_moveVent_X6_value : GoodIn wsX1_moveVent (wsV RX1 37 RX6 yX6_value wsX6_value) := goodIn_app (goodIn_of _ (by decide +kernel)) ggX1_moveVent_X6_value
set_option maxRecDepth 20000 in
theorem ggX1_moveVent_X1_openVent : GoodIn wsX1_moveVent wsX1_openVent := goodIn_r _ [12, 2, 26, 27, 28, 29, 30, 31, 32] (by decide +kernel) (by decide +kernel)
set_option maxRecDepth 20000 in
theorem gX1_moveVent_X1_openVent : GoodIn wsX1_moveVent (wsV RX1 50 RX1 yX1_openVent wsX1_openVent) := goodIn_app (goodIn_of _ (by decide +kernel)) ggX1_moveVent_X1_openVent
set_option maxRecDepth 20000 in
theorem ggX1_moveVent_X1_shutVent : GoodIn wsX1_moveVent wsX1_shutVent := goodIn_r _ [16, 2, 3, 26, 27, 28, 29, 30, 31, 32] (by decide +kernel) (by decide +kernel)
set_option maxRecDepth 20000 in
theorem gX1_moveVent_X1_shutVent : GoodIn wsX1_moveVent (wsV RX1 53 RX1 yX1_shutVent wsX1_shutVent) := goodIn_app (goodIn_of _ (by decide +kernel)) ggX1_moveVent_X1_shutVent
theorem dX1_moveVent_0 : decode cX1_moveVent 0 = .ok (.aload_n 0, 1) := by decide +kernel
theorem dX1_moveVent_1 : decode cX1_moveVent 1 = .ok (.getfield 15, 3) := by decide +kernel
theorem dX1_moveVent_4 : decode cX1_moveVent 4 = .ok (.ifCond .eq 10, 3) := by decide +kernel
theorem dX1_moveVent_7 : decode cX1_moveVent 7 = .ok (.aload_n 0, 1) := by decide +kernel
theorem dX1_moveVent_8 : decode cX1_moveVent 8 = .ok (.invokevirtual 47, 3) := by decide +kernel
theorem dX1_moveVent_11 : decode cX1_moveVent 11 = .ok (.goto 67, 3) := by decide +kernel
theorem dX1_moveVent_14 : decode cX1_moveVent 14 = .ok (.aload_n 0, 1) := by decide +kernel
theorem dX1_moveVent_15 : decode cX1_moveVent 15 = .ok (.getfield 22, 3) := by decide +kernel
theorem dX1_moveVent_18 : decode cX1_moveVent 18 = .ok (.ifCond .ne 21, 3) := by decide +kernel
theorem dX1_moveVent_21 : decode cX1_moveVent 21 = .ok (.lload_n 1, 1) := by decide +kernel
theorem dX1_moveVent_22 : decode cX1_moveVent 22 = .ok (.aload_n 3, 1) := by decide +kernel
theorem dX1_moveVent_23 : decode cX1_moveVent 23 = .ok (.iconst 5, 1) := by decide +kernel
theorem dX1_moveVent_24 : decode cX1_moveVent 24 = .ok (.invokevirtual 37, 3) := by decide +kernel
theorem dX1_moveVent_27 : decode cX1_moveVent 27 = .ok (.i2l, 1) := by decide +kernel
theorem dX1_moveVent_28 : decode cX1_moveVent 28 = .ok (.lcmp, 1) := by decide +kernel
theorem dX1_moveVent_29 : decode cX1_moveVent 29 = .ok (.ifCond .lt 49, 3) := by decide +kernel
theorem dX1_moveVent_32 : decode cX1_moveVent 32 = .ok (.aload_n 0, 1) := by decide +kernel
theorem dX1_moveVent_33 : decode cX1_moveVent 33 = .ok (.invokevirtual 50, 3) := by decide +kernel
theorem dX1_moveVent_36 : decode cX1_moveVent 36 = .ok (.goto 42, 3) := by decide +kernel
theorem dX1_moveVent_39 : decode cX1_moveVent 39 = .ok (.aload_n 0, 1) := by decide +kernel
theorem dX1_moveVent_40 : decode cX1_moveVent 40 = .ok (.dup, 1) := by decide +kernel
theorem dX1_moveVent_41 : decode cX1_moveVent 41 = .ok (.getfield 26, 3) := by decide +kernel
theorem dX1_moveVent_44 : decode cX1_moveVent 44 = .ok (.iconst 1, 1) := by decide +kernel
theorem dX1_moveVent_45 : decode cX1_moveVent 45 = .ok (.iadd, 1) := by decide +kernel
theorem dX1_moveVent_46 : decode cX1_moveVent 46 = .ok (.putfield 26, 3) := by decide +kernel
theorem dX1_moveVent_49 : decode cX1_moveVent 49 = .ok (.lload_n 1, 1) := by decide +kernel
theorem dX1_moveVent_50 : decode cX1_moveVent 50 = .ok (.aload_n 3, 1) := by decide +kernel
theorem dX1_moveVent_51 : decode cX1_moveVent 51 = .ok (.bipush 6, 2) := by decide +kernel
theorem dX1_moveVent_53 : decode cX1_moveVent 53 = .ok (.invokevirtual 37, 3) := by decide +kernel
theorem dX1_moveVent_56 : decode cX1_moveVent 56 = .ok (.i2l, 1) := by decide +kernel
theorem dX1_moveVent_57 : decode cX1_moveVent 57 = .ok (.lcmp, 1) := by decide +kernel
theorem dX1_moveVent_58 : decode cX1_moveVent 58 = .ok (.ifCond .gt 20, 3) := by decide +kernel
theorem dX1_moveVent_61 : decode cX1_moveVent 61 = .ok (.aload_n 0, 1) := by decide +kernel
theorem dX1_moveVent_62 : decode cX1_moveVent 62 = .ok (.getfield 26, 3) := by decide +kernel
theorem dX1_moveVent_65 : decode cX1_moveVent 65 = .ok (.aload_n 3, 1) := by decide +kernel
theorem dX1_moveVent_66 : decode cX1_moveVent 66 = .ok (.bipush 7, 2) := by decide +kernel
theorem dX1_moveVent_68 : decode cX1_moveVent 68 = .ok (.invokevirtual 37, 3) := by decide +kernel
theorem dX1_moveVent_71 : decode cX1_moveVent 71 = .ok (.if_icmp .lt 7, 3) := by decide +kernel
theorem dX1_moveVent_74 : decode cX1_moveVent 74 = .ok (.aload_n 0, 1) := by decide +kernel
theorem dX1_moveVent_75 : decode cX1_moveVent 75 = .ok (.invokevirtual 53, 3) := by decide +kernel
theorem dX1_moveVent_78 : decode cX1_moveVent 78 = .ok (.return_, 1) := by decide +kernel
set_option maxRecDepth 20000 in
theorem ggX2_init_X0_init : GoodIn wsX2_init wsX0_init := goodIn_r _ [9, 10, 2, 3] (by decide +kernel) (by decide +kernel)
set_option maxRecDepth 20000 in
theorem gX2_init_X0_init_n17 : GoodIn wsX2_init (wsX0_init) := ggX2_init_X0_init
theorem dX2_init_0 : decode cX2_init 0 = .ok (.aload_n 0, 1) := by decide +kernel
theorem dX2_init_1 : decode cX2_init 1 = .ok (.invokespecial 3, 3) := by decide +kernel
theorem dX2_init_4 : decode cX2_init 4 = .ok (.aload_n 0, 1) := by decide +kernel
theorem dX2_init_5 : decode cX2_init 5 = .ok (.bipush 10, 2) := by decide +kernel
theorem dX2_init_7 : decode cX2_init 7 = .ok (.anewarray 9, 3) := by decide +kernel
theorem dX2_init_10 : decode cX2_init 10 = .ok (.putfield 11, 3) := by decide +kernel
theorem dX2_init_13 : decode cX2_init 13 = .ok (.iconst 0, 1) := by decide +kernel
theorem dX2_init_14 : decode cX2_init 14 = .ok (.istore_n 1, 1) := by decide +kernel
theorem dX2_init_15 : decode cX2_init 15 = .ok (.iload_n 1, 1) := by decide +kernel
theorem dX2_init_16 : decode cX2_init 16 = .ok (.bipush 10, 2) := by decide +kernel
theorem dX2_init_18 : decode cX2_init 18 = .ok (.if_icmp .ge 22, 3) := by decide +kernel
theorem dX2_init_21 : decode cX2_init 21 = .ok (.aload_n 0, 1) := by decide +kernel
theorem dX2_init_22 : decode cX2_init 22 = .ok (.getfield 11, 3) := by decide +kernel
theorem dX2_init_25 : decode cX2_init 25 = .ok (.iload_n 1, 1) := by decide +kernel
theorem dX2_init_26 : decode cX2_init 26 = .ok (.new 9, 3) := by decide +kernel
theorem dX2_init_29 : decode cX2_init 29 = .ok (.dup, 1) := by decide +kernel
theorem dX2_init_30 : decode cX2_init 30 = .ok (.invokespecial 17, 3) := by decide +kernel
theorem dX2_init_33 : decode cX2_init 33 = .ok (.aastore, 1) := by decide +kernel
theorem dX2_init_34 : decode cX2_init 34 = .ok (.iinc 1 1, 3) := by decide +kernel
theorem dX2_init_37 : decode cX2_init 37 = .ok (.goto (-22), 3) := by decide +kernel
theorem dX2_init_40 : decode cX2_init 40 = .ok (.return_, 1) := by decide +kernel
set_option maxRecDepth 20000 in
theorem ggX2_becomeLike_X0_becomeLike : GoodIn wsX2_becomeLike wsX0_becomeLike := goodIn_r _ [7, 8, 9, 10, 11, 14, 15, 16, 17] (by decide +kernel) (by decide +kernel)
set_option maxRecDepth 20000 in
theorem gX2_becomeLike_X0_becomeLike : GoodIn wsX2_becomeLike (wsV RX2 22 RX0 yX0_becomeLike wsX0_becomeLike) := goodIn_app (goodIn_of _ (by decide +kernel)) ggX2_becomeLike_X0_becomeLike
theorem dX2_becomeLike_0 : decode cX2_becomeLike 0 = .ok (.aload_n 0, 1) := by decide +kernel
theorem dX2_becomeLike_1 : decode cX2_becomeLike 1 = .ok (.aload_n 1, 1) := by decide +kernel
theorem dX2_becomeLike_2 : decode cX2_becomeLike 2 = .ok (.getfield 18, 3) := by decide +kernel
theorem dX2_becomeLike_5 : decode cX2_becomeLike 5 = .ok (.putfield 18, 3) := by decide +kernel
theorem dX2_becomeLike_8 : decode cX2_becomeLike 8 = .ok (.iconst 0, 1) := by decide +kernel
theorem dX2_becomeLike_9 : decode cX2_becomeLike 9 = .ok (.istore_n 2, 1) := by decide +kernel
theorem dX2_becomeLike_10 : decode cX2_becomeLike 10 = .ok (.iload_n 2, 1) := by decide +kernel
theorem dX2_becomeLike_11 : decode cX2_becomeLike 11 = .ok (.aload_n 0, 1) := by decide +kernel
theorem dX2_becomeLike_12 : decode cX2_becomeLike 12 = .ok (.getfield 18, 3) := by decide +kernel
theorem dX2_becomeLike_15 : decode cX2_becomeLike 15 = .ok (.if_icmp .ge 24, 3) := by decide +kernel
theorem dX2_becomeLike_18 : decode cX2_becomeLike 18 = .ok (.aload_n 0, 1) := by decide +kernel
theorem dX2_becomeLike_19 : decode cX2_becomeLike 19 = .ok (.getfield 11, 3) := by decide +kernel
theorem dX2_becomeLike_22 : decode cX2_becomeLike 22 = .ok (.iload_n 2, 1) := by decide +kernel
theorem dX2_becomeLike_23 : decode cX2_becomeLike 23 = .ok (.aaload, 1) := by decide +kernel
theorem dX2_becomeLike_24 : decode cX2_becomeLike 24 = .ok (.aload_n 1, 1) := by decide +kernel
theorem dX2_becomeLike_25 : decode cX2_becomeLike 25 = .ok (.getfield 11, 3) := by decide +kernel
theorem dX2_becomeLike_28 : decode cX2_becomeLike 28 = .ok (.iload_n 2, 1) := by decide +kernel
theorem dX2_becomeLike_29 : decode cX2_becomeLike 29 = .ok (.aaload, 1) := by decide +kernel
theorem dX2_becomeLike_30 : decode cX2_becomeLike 30 = .ok (.invokevirtual 22, 3) := by decide +kernel
theorem dX2_becomeLike_33 : decode cX2_becomeLike 33 = .ok (.iinc 2 1, 3) := by decide +kernel
theorem dX2_becomeLike_36 : decode cX2_becomeLike 36 = .ok (.goto (-26), 3) := by decide +kernel
theorem dX2_becomeLike_39 : decode cX2_becomeLike 39 = .ok (.return_, 1) := by decide +kernel
set_option maxRecDepth 20000 in
theorem ggX2_boxAt_X9_within : GoodIn wsX2_boxAt wsX9_within := goodIn_r _ [5] (by decide +kernel) (by decide +kernel)
set_option maxRecDepth 20000 in
theorem gX2_boxAt_X9_within_n26 : GoodIn wsX2_boxAt (wsX9_within) := ggX2_boxAt_X9_within
theorem dX2_boxAt_0 : decode cX2_boxAt 0 = .ok (.iload_n 1, 1) := by decide +kernel
theorem dX2_boxAt_1 : decode cX2_boxAt 1 = .ok (.iconst 0, 1) := by decide +kernel
theorem dX2_boxAt_2 : decode cX2_boxAt 2 = .ok (.aload_n 0, 1) := by decide +kernel
theorem dX2_boxAt_3 : decode cX2_boxAt 3 = .ok (.getfield 18, 3) := by decide +kernel
theorem dX2_boxAt_6 : decode cX2_boxAt 6 = .ok (.iconst 1, 1) := by decide +kernel
theorem dX2_boxAt_7 : decode cX2_boxAt 7 = .ok (.isub, 1) := by decide +kernel
theorem dX2_boxAt_8 : decode cX2_boxAt 8 = .ok (.invokestatic 26, 3) := by decide +kernel
theorem dX2_boxAt_11 : decode cX2_boxAt 11 = .ok (.ifCond .eq 12, 3) := by decide +kernel
theorem dX2_boxAt_14 : decode cX2_boxAt 14 = .ok (.aload_n 0, 1) := by decide +kernel
theorem dX2_boxAt_15 : decode cX2_boxAt 15 = .ok (.getfield 11, 3) := by decide +kernel
theorem dX2_boxAt_18 : decode cX2_boxAt 18 = .ok (.iload_n 1, 1) := by decide +kernel
theorem dX2_boxAt_19 : decode cX2_boxAt 19 = .ok (.aaload, 1) := by decide +kernel
theorem dX2_boxAt_20 : decode cX2_boxAt 20 = .ok (.goto 4, 3) := by decide +kernel
theorem dX2_boxAt_23 : decode cX2_boxAt 23 = .ok (.aconst_null, 1) := by decide +kernel
theorem dX2_boxAt_24 : decode cX2_boxAt 24 = .ok (.areturn, 1) := by decide +kernel
theorem dX2_append_0 : decode cX2_append 0 = .ok (.aload_n 0, 1) := by decide +kernel
theorem dX2_append_1 : decode cX2_append 1 = .ok (.getfield 18, 3) := by decide +kernel
theorem dX2_append_4 : decode cX2_append 4 = .ok (.bipush 10, 2) := by decide +kernel
theorem dX2_append_6 : decode cX2_append 6 = .ok (.if_icmp .lt 4, 3) := by decide +kernel
theorem dX2_append_9 : decode cX2_append 9 = .ok (.return_, 1) := by decide +kernel
theorem dX2_append_10 : decode cX2_append 10 = .ok (.aload_n 0, 1) := by decide +kernel
theorem dX2_append_11 : decode cX2_append 11 = .ok (.getfield 11, 3) := by decide +kernel
theorem dX2_append_14 : decode cX2_append 14 = .ok (.aload_n 0, 1) := by decide +kernel
theorem dX2_append_15 : decode cX2_append 15 = .ok (.getfield 18, 3) := by decide +kernel
theorem dX2_append_18 : decode cX2_append 18 = .ok (.aaload, 1) := by decide +kernel
theorem dX2_append_19 : decode cX2_append 19 = .ok (.astore 4, 2) := by decide +kernel
theorem dX2_append_21 : decode cX2_append 21 = .ok (.aload 4, 2) := by decide +kernel
theorem dX2_append_23 : decode cX2_append 23 = .ok (.iload_n 1, 1) := by decide +kernel
theorem dX2_append_24 : decode cX2_append 24 = .ok (.putfield 30, 3) := by decide +kernel
theorem dX2_append_27 : decode cX2_append 27 = .ok (.aload 4, 2) := by decide +kernel
theorem dX2_append_29 : decode cX2_append 29 = .ok (.iload_n 2, 1) := by decide +kernel
theorem dX2_append_30 : decode cX2_append 30 = .ok (.putfield 33, 3) := by decide +kernel
theorem dX2_append_33 : decode cX2_append 33 = .ok (.aload 4, 2) := by decide +kernel
theorem dX2_append_35 : decode cX2_append 35 = .ok (.iload_n 3, 1) := by decide +kernel
theorem dX2_append_36 : decode cX2_append 36 = .ok (.putfield 36, 3) := by decide +kernel
theorem dX2_append_39 : decode cX2_append 39 = .ok (.aload 4, 2) := by decide +kernel
theorem dX2_append_41 : decode cX2_append 41 = .ok (.iload_n 3, 1) := by decide +kernel
theorem dX2_append_42 : decode cX2_append 42 = .ok (.putfield 39, 3) := by decide +kernel
theorem dX2_append_45 : decode cX2_append 45 = .ok (.aload_n 0, 1) := by decide +kernel
theorem dX2_append_46 : decode cX2_append 46 = .ok (.dup, 1) := by decide +kernel
theorem dX2_append_47 : decode cX2_append 47 = .ok (.getfield 18, 3) := by decide +kernel
theorem dX2_append_50 : decode cX2_append 50 = .ok (.iconst 1, 1) := by decide +kernel
theorem dX2_append_51 : decode cX2_append 51 = .ok (.iadd, 1) := by decide +kernel
theorem dX2_append_52 : decode cX2_append 52 = .ok (.putfield 18, 3) := by decide +kernel
theorem dX2_append_55 : decode cX2_append 55 = .ok (.return_, 1) := by decide +kernel
set_option maxRecDepth 20000 in
theorem ggX2_takeOut_X9_within : GoodIn wsX2_takeOut wsX9_within := goodIn_r _ [4] (by decide +kernel) (by decide +kernel)
set_option maxRecDepth 20000 in
theorem gX2_takeOut_X9_within_n26 : GoodIn wsX2_takeOut (wsX9_within) := ggX2_takeOut_X9_within
set_option maxRecDepth 20000 in
theorem ggX2_takeOut_X2_move : GoodIn wsX2_takeOut wsX2_move := goodIn_r _ [9, 1, 10, 2, 3, 4, 11, 12] (by decide +kernel) (by decide +kernel)
set_option maxRecDepth 20000 in
theorem gX2_takeOut_X2_move : GoodIn wsX2_takeOut (wsV RX2 42 RX2 yX2_move wsX2_move) := goodIn_app (goodIn_of _ (by decide +kernel)) ggX2_takeOut_X2_move
theorem dX2_takeOut_0 : decode cX2_takeOut 0 = .ok (.iload_n 1, 1) := by decide +kernel
theorem dX2_takeOut_1 : decode cX2_takeOut 1 = .ok (.iconst 0, 1) := by decide +kernel
theorem dX2_takeOut_2 : decode cX2_takeOut 2 = .ok (.aload_n 0, 1) := by decide +kernel
theorem dX2_takeOut_3 : decode cX2_takeOut 3 = .ok (.getfield 18, 3) := by decide +kernel
theorem dX2_takeOut_6 : decode cX2_takeOut 6 = .ok (.iconst 1, 1) := by decide +kernel
theorem dX2_takeOut_7 : decode cX2_takeOut 7 = .ok (.isub, 1) := by decide +kernel
theorem dX2_takeOut_8 : decode cX2_takeOut 8 = .ok (.invokestatic 26, 3) := by decide +kernel
theorem dX2_takeOut_11 : decode cX2_takeOut 11 = .ok (.ifCond .eq 24, 3) := by decide +kernel
theorem dX2_takeOut_14 : decode cX2_takeOut 14 = .ok (.aload_n 0, 1) := by decide +kernel
theorem dX2_takeOut_15 : decode cX2_takeOut 15 = .ok (.iload_n 1, 1) := by decide +kernel
theorem dX2_takeOut_16 : decode cX2_takeOut 16 = .ok (.aload_n 0, 1) := by decide +kernel
theorem dX2_takeOut_17 : decode cX2_takeOut 17 = .ok (.getfield 18, 3) := by decide +kernel
theorem dX2_takeOut_20 : decode cX2_takeOut 20 = .ok (.iconst 1, 1) := by decide +kernel
theorem dX2_takeOut_21 : decode cX2_takeOut 21 = .ok (.isub, 1) := by decide +kernel
theorem dX2_takeOut_22 : decode cX2_takeOut 22 = .ok (.invokevirtual 42, 3) := by decide +kernel
theorem dX2_takeOut_25 : decode cX2_takeOut 25 = .ok (.aload_n 0, 1) := by decide +kernel
theorem dX2_takeOut_26 : decode cX2_takeOut 26 = .ok (.dup, 1) := by decide +kernel
theorem dX2_takeOut_27 : decode cX2_takeOut 27 = .ok (.getfield 18, 3) := by decide +kernel
theorem dX2_takeOut_30 : decode cX2_takeOut 30 = .ok (.iconst 1, 1) := by decide +kernel
theorem dX2_takeOut_31 : decode cX2_takeOut 31 = .ok (.isub, 1) := by decide +kernel
theorem dX2_takeOut_32 : decode cX2_takeOut 32 = .ok (.putfield 18, 3) := by decide +kernel
theorem dX2_takeOut_35 : decode cX2_takeOut 35 = .ok (.return_, 1) := by decide +kernel
set_option maxRecDepth 20000 in
theorem ggX2_move_X9_within : GoodIn wsX2_move wsX9_within := goodIn_r _ [5] (by decide +kernel) (by decide +kernel)
set_option maxRecDepth 20000 in
theorem gX2_move_X9_within_n26 : GoodIn wsX2_move (wsX9_within) := ggX2_move_X9_within
theorem dX2_move_0 : decode cX2_move 0 = .ok (.iload_n 1, 1) := by decide +kernel
theorem dX2_move_1 : decode cX2_move 1 = .ok (.iconst 0, 1) := by decide +kernel
theorem dX2_move_2 : decode cX2_move 2 = .ok (.aload_n 0, 1) := by decide +kernel
theorem dX2_move_3 : decode cX2_move 3 = .ok (.getfield 18, 3) := by decide +kernel
theorem dX2_move_6 : decode cX2_move 6 = .ok (.iconst 1, 1) := by decide +kernel
theorem dX2_move_7 : decode cX2_move 7 = .ok (.isub, 1) := by decide +kernel
theorem dX2_move_8 : decode cX2_move 8 = .ok (.invokestatic 26, 3) := by decide +kernel
theorem dX2_move_11 : decode cX2_move 11 = .ok (.ifCond .eq 17, 3) := by decide +kernel
theorem dX2_move_14 : decode cX2_move 14 = .ok (.iload_n 2, 1) := by decide +kernel
theorem dX2_move_15 : decode cX2_move 15 = .ok (.iconst 0, 1) := by decide +kernel
theorem dX2_move_16 : decode cX2_move 16 = .ok (.aload_n 0, 1) := by decide +kernel
theorem dX2_move_17 : decode cX2_move 17 = .ok (.getfield 18, 3) := by decide +kernel
theorem dX2_move_20 : decode cX2_move 20 = .ok (.iconst 1, 1) := by decide +kernel
theorem dX2_move_21 : decode cX2_move 21 = .ok (.isub, 1) := by decide +kernel
theorem dX2_move_22 : decode cX2_move 22 = .ok (.invokestatic 26, 3) := by decide +kernel
theorem dX2_move_25 : decode cX2_move 25 = .ok (.ifCond .ne 4, 3) := by decide +kernel
theorem dX2_move_28 : decode cX2_move 28 = .ok (.return_, 1) := by decide +kernel
theorem dX2_move_29 : decode cX2_move 29 = .ok (.aload_n 0, 1) := by decide +kernel
theorem dX2_move_30 : decode cX2_move 30 = .ok (.getfield 11, 3) := by decide +kernel
theorem dX2_move_33 : decode cX2_move 33 = .ok (.iload_n 1, 1) := by decide +kernel
theorem dX2_move_34 : decode cX2_move 34 = .ok (.aaload, 1) := by decide +kernel
theorem dX2_move_35 : decode cX2_move 35 = .ok (.astore_n 3, 1) := by decide +kernel
theorem dX2_move_36 : decode cX2_move 36 = .ok (.iload_n 1, 1) := by decide +kernel
theorem dX2_move_37 : decode cX2_move 37 = .ok (.istore 4, 2) := by decide +kernel
theorem dX2_move_39 : decode cX2_move 39 = .ok (.iload 4, 2) := by decide +kernel
theorem dX2_move_41 : decode cX2_move 41 = .ok (.iload_n 2, 1) := by decide +kernel
theorem dX2_move_42 : decode cX2_move 42 = .ok (.if_icmp .ge 25, 3) := by decide +kernel
theorem dX2_move_45 : decode cX2_move 45 = .ok (.aload_n 0, 1) := by decide +kernel
theorem dX2_move_46 : decode cX2_move 46 = .ok (.getfield 11, 3) := by decide +kernel
theorem dX2_move_49 : decode cX2_move 49 = .ok (.iload 4, 2) := by decide +kernel
theorem dX2_move_51 : decode cX2_move 51 = .ok (.aload_n 0, 1) := by decide +kernel
theorem dX2_move_52 : decode cX2_move 52 = .ok (.getfield 11, 3) := by decide +kernel
theorem dX2_move_55 : decode cX2_move 55 = .ok (.iload 4, 2) := by decide +kernel
theorem dX2_move_57 : decode cX2_move 57 = .ok (.iconst 1, 1) := by decide +kernel
theorem dX2_move_58 : decode cX2_move 58 = .ok (.iadd, 1) := by decide +kernel
theorem dX2_move_59 : decode cX2_move 59 = .ok (.aaload, 1) := by decide +kernel
theorem dX2_move_60 : decode cX2_move 60 = .ok (.aastore, 1) := by decide +kernel
theorem dX2_move_61 : decode cX2_move 61 = .ok (.iinc 4 1, 3) := by decide +kernel
theorem dX2_move_64 : decode cX2_move 64 = .ok (.goto (-25), 3) := by decide +kernel
theorem dX2_move_67 : decode cX2_move 67 = .ok (.iload_n 1, 1) := by decide +kernel
theorem dX2_move_68 : decode cX2_move 68 = .ok (.istore 4, 2) := by decide +kernel
theorem dX2_move_70 : decode cX2_move 70 = .ok (.iload 4, 2) := by decide +kernel
theorem dX2_move_72 : decode cX2_move 72 = .ok (.iload_n 2, 1) := by decide +kernel
theorem dX2_move_73 : decode cX2_move 73 = .ok (.if_icmp .le 25, 3) := by decide +kernel
theorem dX2_move_76 : decode cX2_move 76 = .ok (.aload_n 0, 1) := by decide +kernel
theorem dX2_move_77 : decode cX2_move 77 = .ok (.getfield 11, 3) := by decide +kernel
theorem dX2_move_80 : decode cX2_move 80 = .ok (.iload 4, 2) := by decide +kernel
theorem dX2_move_82 : decode cX2_move 82 = .ok (.aload_n 0, 1) := by decide +kernel
theorem dX2_move_83 : decode cX2_move 83 = .ok (.getfield 11, 3) := by decide +kernel
theorem dX2_move_86 : decode cX2_move 86 = .ok (.iload 4, 2) := by decide +kernel
theorem dX2_move_88 : decode cX2_move 88 = .ok (.iconst 1, 1) := by decide +kernel
theorem dX2_move_89 : decode cX2_move 89 = .ok (.isub, 1) := by decide +kernel
theorem dX2_move_90 : decode cX2_move 90 = .ok (.aaload, 1) := by decide +kernel
theorem dX2_move_91 : decode cX2_move 91 = .ok (.aastore, 1) := by decide +kernel
theorem dX2_move_92 : decode cX2_move 92 = .ok (.iinc 4 (-1), 3) := by decide +kernel
theorem dX2_move_95 : decode cX2_move 95 = .ok (.goto (-25), 3) := by decide +kernel
theorem dX2_move_98 : decode cX2_move 98 = .ok (.aload_n 0, 1) := by decide +kernel
theorem dX2_move_99 : decode cX2_move 99 = .ok (.getfield 11, 3) := by decide +kernel
theorem dX2_move_102 : decode cX2_move 102 = .ok (.iload_n 2, 1) := by decide +kernel
theorem dX2_move_103 : decode cX2_move 103 = .ok (.aload_n 3, 1) := by decide +kernel
theorem dX2_move_104 : decode cX2_move 104 = .ok (.aastore, 1) := by decide +kernel
theorem dX2_move_105 : decode cX2_move 105 = .ok (.return_, 1) := by decide +kernel
theorem dX2_iceOfAll_0 : decode cX2_iceOfAll 0 = .ok (.iconst 0, 1) := by decide +kernel
theorem dX2_iceOfAll_1 : decode cX2_iceOfAll 1 = .ok (.istore_n 1, 1) := by decide +kernel
theorem dX2_iceOfAll_2 : decode cX2_iceOfAll 2 = .ok (.iconst 0, 1) := by decide +kernel
theorem dX2_iceOfAll_3 : decode cX2_iceOfAll 3 = .ok (.istore_n 2, 1) := by decide +kernel
theorem dX2_iceOfAll_4 : decode cX2_iceOfAll 4 = .ok (.iload_n 2, 1) := by decide +kernel
theorem dX2_iceOfAll_5 : decode cX2_iceOfAll 5 = .ok (.aload_n 0, 1) := by decide +kernel
theorem dX2_iceOfAll_6 : decode cX2_iceOfAll 6 = .ok (.getfield 18, 3) := by decide +kernel
theorem dX2_iceOfAll_9 : decode cX2_iceOfAll 9 = .ok (.if_icmp .ge 21, 3) := by decide +kernel
theorem dX2_iceOfAll_12 : decode cX2_iceOfAll 12 = .ok (.iload_n 1, 1) := by decide +kernel
theorem dX2_iceOfAll_13 : decode cX2_iceOfAll 13 = .ok (.aload_n 0, 1) := by decide +kernel
theorem dX2_iceOfAll_14 : decode cX2_iceOfAll 14 = .ok (.getfield 11, 3) := by decide +kernel
theorem dX2_iceOfAll_17 : decode cX2_iceOfAll 17 = .ok (.iload_n 2, 1) := by decide +kernel
theorem dX2_iceOfAll_18 : decode cX2_iceOfAll 18 = .ok (.aaload, 1) := by decide +kernel
theorem dX2_iceOfAll_19 : decode cX2_iceOfAll 19 = .ok (.getfield 36, 3) := by decide +kernel
theorem dX2_iceOfAll_22 : decode cX2_iceOfAll 22 = .ok (.iadd, 1) := by decide +kernel
theorem dX2_iceOfAll_23 : decode cX2_iceOfAll 23 = .ok (.istore_n 1, 1) := by decide +kernel
theorem dX2_iceOfAll_24 : decode cX2_iceOfAll 24 = .ok (.iinc 2 1, 3) := by decide +kernel
theorem dX2_iceOfAll_27 : decode cX2_iceOfAll 27 = .ok (.goto (-23), 3) := by decide +kernel
theorem dX2_iceOfAll_30 : decode cX2_iceOfAll 30 = .ok (.iload_n 1, 1) := by decide +kernel
theorem dX2_iceOfAll_31 : decode cX2_iceOfAll 31 = .ok (.ireturn, 1) := by decide +kernel
set_option maxRecDepth 20000 in
theorem ggX2_takeFromFront_X0_take : GoodIn wsX2_takeFromFront wsX0_take := goodIn_r _ [12, 13, 14, 15, 16, 6, 17, 20, 21, 22, 23] (by decide +kernel) (by decide +kernel)
set_option maxRecDepth 20000 in
theorem gX2_takeFromFront_X0_take : GoodIn wsX2_takeFromFront (wsV RX2 52 RX0 yX0_take wsX0_take) := goodIn_app (goodIn_of _ (by decide +kernel)) ggX2_takeFromFront_X0_take
theorem dX2_takeFromFront_0 : decode cX2_takeFromFront 0 = .ok (.iload_n 1, 1) := by decide +kernel
theorem dX2_takeFromFront_1 : decode cX2_takeFromFront 1 = .ok (.istore_n 2, 1) := by decide +kernel
theorem dX2_takeFromFront_2 : decode cX2_takeFromFront 2 = .ok (.iconst 0, 1) := by decide +kernel
theorem dX2_takeFromFront_3 : decode cX2_takeFromFront 3 = .ok (.istore_n 3, 1) := by decide +kernel
theorem dX2_takeFromFront_4 : decode cX2_takeFromFront 4 = .ok (.iconst 0, 1) := by decide +kernel
theorem dX2_takeFromFront_5 : decode cX2_takeFromFront 5 = .ok (.istore 4, 2) := by decide +kernel
theorem dX2_takeFromFront_7 : decode cX2_takeFromFront 7 = .ok (.iload 4, 2) := by decide +kernel
theorem dX2_takeFromFront_9 : decode cX2_takeFromFront 9 = .ok (.aload_n 0, 1) := by decide +kernel
theorem dX2_takeFromFront_10 : decode cX2_takeFromFront 10 = .ok (.getfield 18, 3) := by decide +kernel
theorem dX2_takeFromFront_13 : decode cX2_takeFromFront 13 = .ok (.if_icmp .ge 59, 3) := by decide +kernel
theorem dX2_takeFromFront_16 : decode cX2_takeFromFront 16 = .ok (.iload_n 2, 1) := by decide +kernel
theorem dX2_takeFromFront_17 : decode cX2_takeFromFront 17 = .ok (.ifCond .le 55, 3) := by decide +kernel
theorem dX2_takeFromFront_20 : decode cX2_takeFromFront 20 = .ok (.aload_n 0, 1) := by decide +kernel
theorem dX2_takeFromFront_21 : decode cX2_takeFromFront 21 = .ok (.getfield 11, 3) := by decide +kernel
theorem dX2_takeFromFront_24 : decode cX2_takeFromFront 24 = .ok (.iload 4, 2) := by decide +kernel
theorem dX2_takeFromFront_26 : decode cX2_takeFromFront 26 = .ok (.aaload, 1) := by decide +kernel
theorem dX2_takeFromFront_27 : decode cX2_takeFromFront 27 = .ok (.getfield 36, 3) := by decide +kernel
theorem dX2_takeFromFront_30 : decode cX2_takeFromFront 30 = .ok (.iload_n 2, 1) := by decide +kernel
theorem dX2_takeFromFront_31 : decode cX2_takeFromFront 31 = .ok (.invokestatic 46, 3) := by decide +kernel
theorem dX2_takeFromFront_34 : decode cX2_takeFromFront 34 = .ok (.istore 5, 2) := by decide +kernel
theorem dX2_takeFromFront_36 : decode cX2_takeFromFront 36 = .ok (.aload_n 0, 1) := by decide +kernel
theorem dX2_takeFromFront_37 : decode cX2_takeFromFront 37 = .ok (.getfield 11, 3) := by decide +kernel
theorem dX2_takeFromFront_40 : decode cX2_takeFromFront 40 = .ok (.iload 4, 2) := by decide +kernel
theorem dX2_takeFromFront_42 : decode cX2_takeFromFront 42 = .ok (.aaload, 1) := by decide +kernel
theorem dX2_takeFromFront_43 : decode cX2_takeFromFront 43 = .ok (.iload 5, 2) := by decide +kernel
theorem dX2_takeFromFront_45 : decode cX2_takeFromFront 45 = .ok (.invokevirtual 52, 3) := by decide +kernel
theorem dX2_takeFromFront_48 : decode cX2_takeFromFront 48 = .ok (.iload_n 2, 1) := by decide +kernel
theorem dX2_takeFromFront_49 : decode cX2_takeFromFront 49 = .ok (.iload 5, 2) := by decide +kernel
theorem dX2_takeFromFront_51 : decode cX2_takeFromFront 51 = .ok (.isub, 1) := by decide +kernel
theorem dX2_takeFromFront_52 : decode cX2_takeFromFront 52 = .ok (.istore_n 2, 1) := by decide +kernel
theorem dX2_takeFromFront_53 : decode cX2_takeFromFront 53 = .ok (.iload_n 3, 1) := by decide +kernel
theorem dX2_takeFromFront_54 : decode cX2_takeFromFront 54 = .ok (.iload 5, 2) := by decide +kernel
theorem dX2_takeFromFront_56 : decode cX2_takeFromFront 56 = .ok (.ifCond .le 7, 3) := by decide +kernel
theorem dX2_takeFromFront_59 : decode cX2_takeFromFront 59 = .ok (.iconst 1, 1) := by decide +kernel
theorem dX2_takeFromFront_60 : decode cX2_takeFromFront 60 = .ok (.goto 4, 3) := by decide +kernel
theorem dX2_takeFromFront_63 : decode cX2_takeFromFront 63 = .ok (.iconst 0, 1) := by decide +kernel
theorem dX2_takeFromFront_64 : decode cX2_takeFromFront 64 = .ok (.iadd, 1) := by decide +kernel
theorem dX2_takeFromFront_65 : decode cX2_takeFromFront 65 = .ok (.istore_n 3, 1) := by decide +kernel
theorem dX2_takeFromFront_66 : decode cX2_takeFromFront 66 = .ok (.iinc 4 1, 3) := by decide +kernel
theorem dX2_takeFromFront_69 : decode cX2_takeFromFront 69 = .ok (.goto (-62), 3) := by decide +kernel
theorem dX2_takeFromFront_72 : decode cX2_takeFromFront 72 = .ok (.iload_n 3, 1) := by decide +kernel
theorem dX2_takeFromFront_73 : decode cX2_takeFromFront 73 = .ok (.ireturn, 1) := by decide +kernel
set_option maxRecDepth 20000 in
theorem ggX2_letGoOff_X0_goingOff : GoodIn wsX2_letGoOff wsX0_goingOff := goodIn_r _ [7, 8, 9, 10, 11, 12, 13, 14, 15, 16, 17, 18, 19, 20, 31, 32, 33, 34] (by decide +kernel) (by decide +kernel)
set_option maxRecDepth 20000 in
theorem gX2_letGoOff_X0_goingOff : GoodIn wsX2_letGoOff (wsV RX2 56 RX0 yX0_goingOff wsX0_goingOff) := goodIn_app (goodIn_of _ (by decide +kernel)) ggX2_letGoOff_X0_goingOff
set_option maxRecDepth 20000 in
theorem ggX2_letGoOff_X0_take : GoodIn wsX2_letGoOff wsX0_take := goodIn_r _ [24, 14, 25, 26, 27, 12, 28, 31, 32, 33, 34] (by decide +kernel) (by decide +kernel)
set_option maxRecDepth 20000 in
theorem gX2_letGoOff_X0_take : GoodIn wsX2_letGoOff (wsV RX2 52 RX0 yX0_take wsX0_take) := goodIn_app (goodIn_of _ (by decide +kernel)) ggX2_letGoOff_X0_take
theorem dX2_letGoOff_0 : decode cX2_letGoOff 0 = .ok (.iconst 0, 1) := by decide +kernel
theorem dX2_letGoOff_1 : decode cX2_letGoOff 1 = .ok (.istore_n 3, 1) := by decide +kernel
theorem dX2_letGoOff_2 : decode cX2_letGoOff 2 = .ok (.iconst 0, 1) := by decide +kernel
theorem dX2_letGoOff_3 : decode cX2_letGoOff 3 = .ok (.istore 4, 2) := by decide +kernel
theorem dX2_letGoOff_5 : decode cX2_letGoOff 5 = .ok (.iload 4, 2) := by decide +kernel
theorem dX2_letGoOff_7 : decode cX2_letGoOff 7 = .ok (.aload_n 0, 1) := by decide +kernel
theorem dX2_letGoOff_8 : decode cX2_letGoOff 8 = .ok (.getfield 18, 3) := by decide +kernel
theorem dX2_letGoOff_11 : decode cX2_letGoOff 11 = .ok (.if_icmp .ge 40, 3) := by decide +kernel
theorem dX2_letGoOff_14 : decode cX2_letGoOff 14 = .ok (.aload_n 0, 1) := by decide +kernel
theorem dX2_letGoOff_15 : decode cX2_letGoOff 15 = .ok (.getfield 11, 3) := by decide +kernel
theorem dX2_letGoOff_18 : decode cX2_letGoOff 18 = .ok (.iload 4, 2) := by decide +kernel
theorem dX2_letGoOff_20 : decode cX2_letGoOff 20 = .ok (.aaload, 1) := by decide +kernel
theorem dX2_letGoOff_21 : decode cX2_letGoOff 21 = .ok (.iload_n 1, 1) := by decide +kernel
theorem dX2_letGoOff_22 : decode cX2_letGoOff 22 = .ok (.iload_n 2, 1) := by decide +kernel
theorem dX2_letGoOff_23 : decode cX2_letGoOff 23 = .ok (.invokevirtual 56, 3) := by decide +kernel
theorem dX2_letGoOff_26 : decode cX2_letGoOff 26 = .ok (.istore 5, 2) := by decide +kernel
theorem dX2_letGoOff_28 : decode cX2_letGoOff 28 = .ok (.aload_n 0, 1) := by decide +kernel
theorem dX2_letGoOff_29 : decode cX2_letGoOff 29 = .ok (.getfield 11, 3) := by decide +kernel
theorem dX2_letGoOff_32 : decode cX2_letGoOff 32 = .ok (.iload 4, 2) := by decide +kernel
theorem dX2_letGoOff_34 : decode cX2_letGoOff 34 = .ok (.aaload, 1) := by decide +kernel
theorem dX2_letGoOff_35 : decode cX2_letGoOff 35 = .ok (.iload 5, 2) := by decide +kernel
theorem dX2_letGoOff_37 : decode cX2_letGoOff 37 = .ok (.invokevirtual 52, 3) := by decide +kernel
theorem dX2_letGoOff_40 : decode cX2_letGoOff 40 = .ok (.iload_n 3, 1) := by decide +kernel
theorem dX2_letGoOff_41 : decode cX2_letGoOff 41 = .ok (.iload 5, 2) := by decide +kernel
theorem dX2_letGoOff_43 : decode cX2_letGoOff 43 = .ok (.iadd, 1) := by decide +kernel
theorem dX2_letGoOff_44 : decode cX2_letGoOff 44 = .ok (.istore_n 3, 1) := by decide +kernel
theorem dX2_letGoOff_45 : decode cX2_letGoOff 45 = .ok (.iinc 4 1, 3) := by decide +kernel
theorem dX2_letGoOff_48 : decode cX2_letGoOff 48 = .ok (.goto (-43), 3) := by decide +kernel
theorem dX2_letGoOff_51 : decode cX2_letGoOff 51 = .ok (.iload_n 3, 1) := by decide +kernel
theorem dX2_letGoOff_52 : decode cX2_letGoOff 52 = .ok (.ireturn, 1) := by decide +kernel
theorem dX3_init_0 : decode cX3_init 0 = .ok (.aload_n 0, 1) := by decide +kernel
theorem dX3_init_1 : decode cX3_init 1 = .ok (.invokespecial 3, 3) := by decide +kernel
theorem dX3_init_4 : decode cX3_init 4 = .ok (.aload_n 0, 1) := by decide +kernel
theorem dX3_init_5 : decode cX3_init 5 = .ok (.bipush 80, 2) := by decide +kernel
theorem dX3_init_7 : decode cX3_init 7 = .ok (.newarray .int, 2) := by decide +kernel
theorem dX3_init_9 : decode cX3_init 9 = .ok (.putfield 9, 3) := by decide +kernel
theorem dX3_init_12 : decode cX3_init 12 = .ok (.return_, 1) := by decide +kernel
theorem dX3_append_0 : decode cX3_append 0 = .ok (.aload_n 0, 1) := by decide +kernel
theorem dX3_append_1 : decode cX3_append 1 = .ok (.getfield 15, 3) := by decide +kernel
theorem dX3_append_4 : decode cX3_append 4 = .ok (.bipush 80, 2) := by decide +kernel
theorem dX3_append_6 : decode cX3_append 6 = .ok (.if_icmp .ge 23, 3) := by decide +kernel
theorem dX3_append_9 : decode cX3_append 9 = .ok (.aload_n 0, 1) := by decide +kernel
theorem dX3_append_10 : decode cX3_append 10 = .ok (.getfield 9, 3) := by decide +kernel
theorem dX3_append_13 : decode cX3_append 13 = .ok (.aload_n 0, 1) := by decide +kernel
theorem dX3_append_14 : decode cX3_append 14 = .ok (.getfield 15, 3) := by decide +kernel
theorem dX3_append_17 : decode cX3_append 17 = .ok (.iload_n 1, 1) := by decide +kernel
theorem dX3_append_18 : decode cX3_append 18 = .ok (.iastore, 1) := by decide +kernel
theorem dX3_append_19 : decode cX3_append 19 = .ok (.aload_n 0, 1) := by decide +kernel
theorem dX3_append_20 : decode cX3_append 20 = .ok (.dup, 1) := by decide +kernel
theorem dX3_append_21 : decode cX3_append 21 = .ok (.getfield 15, 3) := by decide +kernel
theorem dX3_append_24 : decode cX3_append 24 = .ok (.iconst 1, 1) := by decide +kernel
theorem dX3_append_25 : decode cX3_append 25 = .ok (.iadd, 1) := by decide +kernel
theorem dX3_append_26 : decode cX3_append 26 = .ok (.putfield 15, 3) := by decide +kernel
theorem dX3_append_29 : decode cX3_append 29 = .ok (.return_, 1) := by decide +kernel
set_option maxRecDepth 20000 in
theorem ggX3_codeAt_X9_within : GoodIn wsX3_codeAt wsX9_within := goodIn_r _ [5] (by decide +kernel) (by decide +kernel)
set_option maxRecDepth 20000 in
theorem gX3_codeAt_X9_within_n19 : GoodIn wsX3_codeAt (wsX9_within) := ggX3_codeAt_X9_within
theorem dX3_codeAt_0 : decode cX3_codeAt 0 = .ok (.iload_n 1, 1) := by decide +kernel
theorem dX3_codeAt_1 : decode cX3_codeAt 1 = .ok (.iconst 0, 1) := by decide +kernel
theorem dX3_codeAt_2 : decode cX3_codeAt 2 = .ok (.aload_n 0, 1) := by decide +kernel
theorem dX3_codeAt_3 : decode cX3_codeAt 3 = .ok (.getfield 15, 3) := by decide +kernel
theorem dX3_codeAt_6 : decode cX3_codeAt 6 = .ok (.iconst 1, 1) := by decide +kernel
theorem dX3_codeAt_7 : decode cX3_codeAt 7 = .ok (.isub, 1) := by decide +kernel
theorem dX3_codeAt_8 : decode cX3_codeAt 8 = .ok (.invokestatic 19, 3) := by decide +kernel
theorem dX3_codeAt_11 : decode cX3_codeAt 11 = .ok (.ifCond .eq 12, 3) := by decide +kernel
theorem dX3_codeAt_14 : decode cX3_codeAt 14 = .ok (.aload_n 0, 1) := by decide +kernel
theorem dX3_codeAt_15 : decode cX3_codeAt 15 = .ok (.getfield 9, 3) := by decide +kernel
theorem dX3_codeAt_18 : decode cX3_codeAt 18 = .ok (.iload_n 1, 1) := by decide +kernel
theorem dX3_codeAt_19 : decode cX3_codeAt 19 = .ok (.iaload, 1) := by decide +kernel
theorem dX3_codeAt_20 : decode cX3_codeAt 20 = .ok (.goto 4, 3) := by decide +kernel
theorem dX3_codeAt_23 : decode cX3_codeAt 23 = .ok (.iconst 0, 1) := by decide +kernel
theorem dX3_codeAt_24 : decode cX3_codeAt 24 = .ok (.ireturn, 1) := by decide +kernel
theorem dX4_init_0 : decode cX4_init 0 = .ok (.aload_n 0, 1) := by decide +kernel
theorem dX4_init_1 : decode cX4_init 1 = .ok (.invokespecial 3, 3) := by decide +kernel
theorem dX4_init_4 : decode cX4_init 4 = .ok (.aload_n 0, 1) := by decide +kernel
theorem dX4_init_5 : decode cX4_init 5 = .ok (.bipush 12, 2) := by decide +kernel
theorem dX4_init_7 : decode cX4_init 7 = .ok (.newarray .int, 2) := by decide +kernel
theorem dX4_init_9 : decode cX4_init 9 = .ok (.putfield 9, 3) := by decide +kernel
theorem dX4_init_12 : decode cX4_init 12 = .ok (.aload_n 0, 1) := by decide +kernel
theorem dX4_init_13 : decode cX4_init 13 = .ok (.bipush 12, 2) := by decide +kernel
theorem dX4_init_15 : decode cX4_init 15 = .ok (.newarray .int, 2) := by decide +kernel
theorem dX4_init_17 : decode cX4_init 17 = .ok (.putfield 15, 3) := by decide +kernel
theorem dX4_init_20 : decode cX4_init 20 = .ok (.aload_n 0, 1) := by decide +kernel
theorem dX4_init_21 : decode cX4_init 21 = .ok (.iconst (-1), 1) := by decide +kernel
theorem dX4_init_22 : decode cX4_init 22 = .ok (.putfield 18, 3) := by decide +kernel
theorem dX4_init_25 : decode cX4_init 25 = .ok (.return_, 1) := by decide +kernel
theorem dX4_becomeLike_0 : decode cX4_becomeLike 0 = .ok (.aload_n 1, 1) := by decide +kernel
theorem dX4_becomeLike_1 : decode cX4_becomeLike 1 = .ok (.getfield 9, 3) := by decide +kernel
theorem dX4_becomeLike_4 : decode cX4_becomeLike 4 = .ok (.iconst 0, 1) := by decide +kernel
theorem dX4_becomeLike_5 : decode cX4_becomeLike 5 = .ok (.aload_n 0, 1) := by decide +kernel
theorem dX4_becomeLike_6 : decode cX4_becomeLike 6 = .ok (.getfield 9, 3) := by decide +kernel
theorem dX4_becomeLike_9 : decode cX4_becomeLike 9 = .ok (.iconst 0, 1) := by decide +kernel
theorem dX4_becomeLike_10 : decode cX4_becomeLike 10 = .ok (.bipush 12, 2) := by decide +kernel
theorem dX4_becomeLike_12 : decode cX4_becomeLike 12 = .ok (.invokestatic 22, 3) := by decide +kernel
theorem dX4_becomeLike_15 : decode cX4_becomeLike 15 = .ok (.aload_n 1, 1) := by decide +kernel
theorem dX4_becomeLike_16 : decode cX4_becomeLike 16 = .ok (.getfield 15, 3) := by decide +kernel
theorem dX4_becomeLike_19 : decode cX4_becomeLike 19 = .ok (.iconst 0, 1) := by decide +kernel
theorem dX4_becomeLike_20 : decode cX4_becomeLike 20 = .ok (.aload_n 0, 1) := by decide +kernel
theorem dX4_becomeLike_21 : decode cX4_becomeLike 21 = .ok (.getfield 15, 3) := by decide +kernel
theorem dX4_becomeLike_24 : decode cX4_becomeLike 24 = .ok (.iconst 0, 1) := by decide +kernel
theorem dX4_becomeLike_25 : decode cX4_becomeLike 25 = .ok (.bipush 12, 2) := by decide +kernel
theorem dX4_becomeLike_27 : decode cX4_becomeLike 27 = .ok (.invokestatic 22, 3) := by decide +kernel
theorem dX4_becomeLike_30 : decode cX4_becomeLike 30 = .ok (.aload_n 0, 1) := by decide +kernel
theorem dX4_becomeLike_31 : decode cX4_becomeLike 31 = .ok (.aload_n 1, 1) := by decide +kernel
theorem dX4_becomeLike_32 : decode cX4_becomeLike 32 = .ok (.getfield 28, 3) := by decide +kernel
theorem dX4_becomeLike_35 : decode cX4_becomeLike 35 = .ok (.putfield 28, 3) := by decide +kernel
theorem dX4_becomeLike_38 : decode cX4_becomeLike 38 = .ok (.aload_n 0, 1) := by decide +kernel
theorem dX4_becomeLike_39 : decode cX4_becomeLike 39 = .ok (.aload_n 1, 1) := by decide +kernel
theorem dX4_becomeLike_40 : decode cX4_becomeLike 40 = .ok (.getfield 18, 3) := by decide +kernel
theorem dX4_becomeLike_43 : decode cX4_becomeLike 43 = .ok (.putfield 18, 3) := by decide +kernel
theorem dX4_becomeLike_46 : decode cX4_becomeLike 46 = .ok (.aload_n 0, 1) := by decide +kernel
theorem dX4_becomeLike_47 : decode cX4_becomeLike 47 = .ok (.aload_n 1, 1) := by decide +kernel
theorem dX4_becomeLike_48 : decode cX4_becomeLike 48 = .ok (.getfield 31, 3) := by decide +kernel
theorem dX4_becomeLike_51 : decode cX4_becomeLike 51 = .ok (.putfield 31, 3) := by decide +kernel
theorem dX4_becomeLike_54 : decode cX4_becomeLike 54 = .ok (.return_, 1) := by decide +kernel
set_option maxRecDepth 20000 in
theorem ggX4_hasLeg_X9_within : GoodIn wsX4_hasLeg wsX9_within := goodIn_r _ [4] (by decide +kernel) (by decide +kernel)
set_option maxRecDepth 20000 in
theorem gX4_hasLeg_X9_within_n34 : GoodIn wsX4_hasLeg (wsX9_within) := ggX4_hasLeg_X9_within
theorem dX4_hasLeg_0 : decode cX4_hasLeg 0 = .ok (.iload_n 1, 1) := by decide +kernel
theorem dX4_hasLeg_1 : decode cX4_hasLeg 1 = .ok (.iconst 0, 1) := by decide +kernel
theorem dX4_hasLeg_2 : decode cX4_hasLeg 2 = .ok (.aload_n 0, 1) := by decide +kernel
theorem dX4_hasLeg_3 : decode cX4_hasLeg 3 = .ok (.getfield 28, 3) := by decide +kernel
theorem dX4_hasLeg_6 : decode cX4_hasLeg 6 = .ok (.iconst 1, 1) := by decide +kernel
theorem dX4_hasLeg_7 : decode cX4_hasLeg 7 = .ok (.isub, 1) := by decide +kernel
theorem dX4_hasLeg_8 : decode cX4_hasLeg 8 = .ok (.invokestatic 34, 3) := by decide +kernel
theorem dX4_hasLeg_11 : decode cX4_hasLeg 11 = .ok (.ireturn, 1) := by decide +kernel
set_option maxRecDepth 20000 in
theorem ggX4_hasNextLeg_X4_hasLeg : GoodIn wsX4_hasNextLeg wsX4_hasLeg := goodIn_r _ [6, 7, 8, 9, 10, 11, 12, 13, 14, 15] (by decide +kernel) (by decide +kernel)
set_option maxRecDepth 20000 in
theorem gX4_hasNextLeg_X4_hasLeg : GoodIn wsX4_hasNextLeg (wsV RX4 38 RX4 yX4_hasLeg wsX4_hasLeg) := goodIn_app (goodIn_of _ (by decide +kernel)) ggX4_hasNextLeg_X4_hasLeg
theorem dX4_hasNextLeg_0 : decode cX4_hasNextLeg 0 = .ok (.aload_n 0, 1) := by decide +kernel
theorem dX4_hasNextLeg_1 : decode cX4_hasNextLeg 1 = .ok (.aload_n 0, 1) := by decide +kernel
theorem dX4_hasNextLeg_2 : decode cX4_hasNextLeg 2 = .ok (.getfield 18, 3) := by decide +kernel
theorem dX4_hasNextLeg_5 : decode cX4_hasNextLeg 5 = .ok (.iconst 1, 1) := by decide +kernel
theorem dX4_hasNextLeg_6 : decode cX4_hasNextLeg 6 = .ok (.iadd, 1) := by decide +kernel
theorem dX4_hasNextLeg_7 : decode cX4_hasNextLeg 7 = .ok (.invokevirtual 38, 3) := by decide +kernel
theorem dX4_hasNextLeg_10 : decode cX4_hasNextLeg 10 = .ok (.ireturn, 1) := by decide +kernel
theorem dX4_isOnTheWay_0 : decode cX4_isOnTheWay 0 = .ok (.aload_n 0, 1) := by decide +kernel
theorem dX4_isOnTheWay_1 : decode cX4_isOnTheWay 1 = .ok (.getfield 31, 3) := by decide +kernel
theorem dX4_isOnTheWay_4 : decode cX4_isOnTheWay 4 = .ok (.ifCond .le 7, 3) := by decide +kernel
theorem dX4_isOnTheWay_7 : decode cX4_isOnTheWay 7 = .ok (.iconst 1, 1) := by decide +kernel
theorem dX4_isOnTheWay_8 : decode cX4_isOnTheWay 8 = .ok (.goto 4, 3) := by decide +kernel
theorem dX4_isOnTheWay_11 : decode cX4_isOnTheWay 11 = .ok (.iconst 0, 1) := by decide +kernel
theorem dX4_isOnTheWay_12 : decode cX4_isOnTheWay 12 = .ok (.ireturn, 1) := by decide +kernel
set_option maxRecDepth 20000 in
theorem ggX4_durationOf_X4_hasLeg : GoodIn wsX4_durationOf wsX4_hasLeg := goodIn_r _ [6, 7, 8, 9, 10, 11, 12, 13, 14, 15] (by decide +kernel) (by decide +kernel)
set_option maxRecDepth 20000 in
theorem gX4_durationOf_X4_hasLeg : GoodIn wsX4_durationOf (wsV RX4 38 RX4 yX4_hasLeg wsX4_hasLeg) := goodIn_app (goodIn_of _ (by decide +kernel)) ggX4_durationOf_X4_hasLeg
theorem dX4_durationOf_0 : decode cX4_durationOf 0 = .ok (.aload_n 0, 1) := by decide +kernel
theorem dX4_durationOf_1 : decode cX4_durationOf 1 = .ok (.iload_n 1, 1) := by decide +kernel
theorem dX4_durationOf_2 : decode cX4_durationOf 2 = .ok (.invokevirtual 38, 3) := by decide +kernel
theorem dX4_durationOf_5 : decode cX4_durationOf 5 = .ok (.ifCond .eq 12, 3) := by decide +kernel
theorem dX4_durationOf_8 : decode cX4_durationOf 8 = .ok (.aload_n 0, 1) := by decide +kernel
theorem dX4_durationOf_9 : decode cX4_durationOf 9 = .ok (.getfield 9, 3) := by decide +kernel
theorem dX4_durationOf_12 : decode cX4_durationOf 12 = .ok (.iload_n 1, 1) := by decide +kernel
theorem dX4_durationOf_13 : decode cX4_durationOf 13 = .ok (.iaload, 1) := by decide +kernel
theorem dX4_durationOf_14 : decode cX4_durationOf 14 = .ok (.goto 4, 3) := by decide +kernel
theorem dX4_durationOf_17 : decode cX4_durationOf 17 = .ok (.iconst 0, 1) := by decide +kernel
theorem dX4_durationOf_18 : decode cX4_durationOf 18 = .ok (.ireturn, 1) := by decide +kernel
set_option maxRecDepth 20000 in
theorem ggX4_outsideOf_X4_hasLeg : GoodIn wsX4_outsideOf wsX4_hasLeg := goodIn_r _ [6, 7, 8, 9, 10, 11, 12, 13, 14, 15] (by decide +kernel) (by decide +kernel)
set_option maxRecDepth 20000 in
theorem gX4_outsideOf_X4_hasLeg : GoodIn wsX4_outsideOf (wsV RX4 38 RX4 yX4_hasLeg wsX4_hasLeg) := goodIn_app (goodIn_of _ (by decide +kernel)) ggX4_outsideOf_X4_hasLeg
theorem dX4_outsideOf_0 : decode cX4_outsideOf 0 = .ok (.aload_n 0, 1) := by decide +kernel
theorem dX4_outsideOf_1 : decode cX4_outsideOf 1 = .ok (.iload_n 1, 1) := by decide +kernel
theorem dX4_outsideOf_2 : decode cX4_outsideOf 2 = .ok (.invokevirtual 38, 3) := by decide +kernel
theorem dX4_outsideOf_5 : decode cX4_outsideOf 5 = .ok (.ifCond .eq 12, 3) := by decide +kernel
theorem dX4_outsideOf_8 : decode cX4_outsideOf 8 = .ok (.aload_n 0, 1) := by decide +kernel
theorem dX4_outsideOf_9 : decode cX4_outsideOf 9 = .ok (.getfield 15, 3) := by decide +kernel
theorem dX4_outsideOf_12 : decode cX4_outsideOf 12 = .ok (.iload_n 1, 1) := by decide +kernel
theorem dX4_outsideOf_13 : decode cX4_outsideOf 13 = .ok (.iaload, 1) := by decide +kernel
theorem dX4_outsideOf_14 : decode cX4_outsideOf 14 = .ok (.goto 4, 3) := by decide +kernel
theorem dX4_outsideOf_17 : decode cX4_outsideOf 17 = .ok (.iconst 0, 1) := by decide +kernel
theorem dX4_outsideOf_18 : decode cX4_outsideOf 18 = .ok (.ireturn, 1) := by decide +kernel
set_option maxRecDepth 20000 in
theorem ggX4_outsideNow_X4_hasLeg : GoodIn wsX4_outsideNow wsX4_hasLeg := goodIn_r _ [7, 8, 9, 10, 11, 12, 13, 14, 15, 16] (by decide +kernel) (by decide +kernel)
set_option maxRecDepth 20000 in
theorem gX4_outsideNow_X4_hasLeg : GoodIn wsX4_outsideNow (wsV RX4 38 RX4 yX4_hasLeg wsX4_hasLeg) := goodIn_app (goodIn_of _ (by decide +kernel)) ggX4_outsideNow_X4_hasLeg
theorem dX4_outsideNow_0 : decode cX4_outsideNow 0 = .ok (.aload_n 0, 1) := by decide +kernel
theorem dX4_outsideNow_1 : decode cX4_outsideNow 1 = .ok (.aload_n 0, 1) := by decide +kernel
theorem dX4_outsideNow_2 : decode cX4_outsideNow 2 = .ok (.getfield 18, 3) := by decide +kernel
theorem dX4_outsideNow_5 : decode cX4_outsideNow 5 = .ok (.invokevirtual 38, 3) := by decide +kernel
theorem dX4_outsideNow_8 : decode cX4_outsideNow 8 = .ok (.ifCond .eq 15, 3) := by decide +kernel
theorem dX4_outsideNow_11 : decode cX4_outsideNow 11 = .ok (.aload_n 0, 1) := by decide +kernel
theorem dX4_outsideNow_12 : decode cX4_outsideNow 12 = .ok (.getfield 15, 3) := by decide +kernel
theorem dX4_outsideNow_15 : decode cX4_outsideNow 15 = .ok (.aload_n 0, 1) := by decide +kernel
theorem dX4_outsideNow_16 : decode cX4_outsideNow 16 = .ok (.getfield 18, 3) := by decide +kernel
theorem dX4_outsideNow_19 : decode cX4_outsideNow 19 = .ok (.iaload, 1) := by decide +kernel
theorem dX4_outsideNow_20 : decode cX4_outsideNow 20 = .ok (.goto 6, 3) := by decide +kernel
theorem dX4_outsideNow_23 : decode cX4_outsideNow 23 = .ok (.sipush 2000, 3) := by decide +kernel
theorem dX4_outsideNow_26 : decode cX4_outsideNow 26 = .ok (.ireturn, 1) := by decide +kernel
theorem dX4_append_0 : decode cX4_append 0 = .ok (.aload_n 0, 1) := by decide +kernel
theorem dX4_append_1 : decode cX4_append 1 = .ok (.getfield 28, 3) := by decide +kernel
theorem dX4_append_4 : decode cX4_append 4 = .ok (.bipush 12, 2) := by decide +kernel
theorem dX4_append_6 : decode cX4_append 6 = .ok (.if_icmp .lt 4, 3) := by decide +kernel
theorem dX4_append_9 : decode cX4_append 9 = .ok (.return_, 1) := by decide +kernel
theorem dX4_append_10 : decode cX4_append 10 = .ok (.aload_n 0, 1) := by decide +kernel
theorem dX4_append_11 : decode cX4_append 11 = .ok (.getfield 9, 3) := by decide +kernel
theorem dX4_append_14 : decode cX4_append 14 = .ok (.aload_n 0, 1) := by decide +kernel
theorem dX4_append_15 : decode cX4_append 15 = .ok (.getfield 28, 3) := by decide +kernel
theorem dX4_append_18 : decode cX4_append 18 = .ok (.iload_n 1, 1) := by decide +kernel
theorem dX4_append_19 : decode cX4_append 19 = .ok (.iastore, 1) := by decide +kernel
theorem dX4_append_20 : decode cX4_append 20 = .ok (.aload_n 0, 1) := by decide +kernel
theorem dX4_append_21 : decode cX4_append 21 = .ok (.getfield 15, 3) := by decide +kernel
theorem dX4_append_24 : decode cX4_append 24 = .ok (.aload_n 0, 1) := by decide +kernel
theorem dX4_append_25 : decode cX4_append 25 = .ok (.getfield 28, 3) := by decide +kernel
theorem dX4_append_28 : decode cX4_append 28 = .ok (.iload_n 2, 1) := by decide +kernel
theorem dX4_append_29 : decode cX4_append 29 = .ok (.iastore, 1) := by decide +kernel
theorem dX4_append_30 : decode cX4_append 30 = .ok (.aload_n 0, 1) := by decide +kernel
theorem dX4_append_31 : decode cX4_append 31 = .ok (.dup, 1) := by decide +kernel
theorem dX4_append_32 : decode cX4_append 32 = .ok (.getfield 28, 3) := by decide +kernel
theorem dX4_append_35 : decode cX4_append 35 = .ok (.iconst 1, 1) := by decide +kernel
theorem dX4_append_36 : decode cX4_append 36 = .ok (.iadd, 1) := by decide +kernel
theorem dX4_append_37 : decode cX4_append 37 = .ok (.putfield 28, 3) := by decide +kernel
theorem dX4_append_40 : decode cX4_append 40 = .ok (.return_, 1) := by decide +kernel
set_option maxRecDepth 20000 in
theorem ggX4_beginNextLeg_X4_hasNextLeg : GoodIn wsX4_beginNextLeg wsX4_hasNextLeg := goodIn_r _ [8, 1, 9, 10, 11, 7, 12, 13, 14, 15, 16, 17, 18, 19, 20, 21] (by decide +kernel) (by decide +kernel)
set_option maxRecDepth 20000 in
theorem gX4_beginNextLeg_X4_hasNextLeg : GoodIn wsX4_beginNextLeg (wsV RX4 42 RX4 yX4_hasNextLeg wsX4_hasNextLeg) := goodIn_app (goodIn_of _ (by decide +kernel)) ggX4_beginNextLeg_X4_hasNextLeg
theorem dX4_beginNextLeg_0 : decode cX4_beginNextLeg 0 = .ok (.aload_n 0, 1) := by decide +kernel
theorem dX4_beginNextLeg_1 : decode cX4_beginNextLeg 1 = .ok (.invokevirtual 42, 3) := by decide +kernel
theorem dX4_beginNextLeg_4 : decode cX4_beginNextLeg 4 = .ok (.ifCond .eq 26, 3) := by decide +kernel
theorem dX4_beginNextLeg_7 : decode cX4_beginNextLeg 7 = .ok (.aload_n 0, 1) := by decide +kernel
theorem dX4_beginNextLeg_8 : decode cX4_beginNextLeg 8 = .ok (.dup, 1) := by decide +kernel
theorem dX4_beginNextLeg_9 : decode cX4_beginNextLeg 9 = .ok (.getfield 18, 3) := by decide +kernel
theorem dX4_beginNextLeg_12 : decode cX4_beginNextLeg 12 = .ok (.iconst 1, 1) := by decide +kernel
theorem dX4_beginNextLeg_13 : decode cX4_beginNextLeg 13 = .ok (.iadd, 1) := by decide +kernel
theorem dX4_beginNextLeg_14 : decode cX4_beginNextLeg 14 = .ok (.putfield 18, 3) := by decide +kernel
theorem dX4_beginNextLeg_17 : decode cX4_beginNextLeg 17 = .ok (.aload_n 0, 1) := by decide +kernel
theorem dX4_beginNextLeg_18 : decode cX4_beginNextLeg 18 = .ok (.aload_n 0, 1) := by decide +kernel
theorem dX4_beginNextLeg_19 : decode cX4_beginNextLeg 19 = .ok (.getfield 9, 3) := by decide +kernel
theorem dX4_beginNextLeg_22 : decode cX4_beginNextLeg 22 = .ok (.aload_n 0, 1) := by decide +kernel
theorem dX4_beginNextLeg_23 : decode cX4_beginNextLeg 23 = .ok (.getfield 18, 3) := by decide +kernel
theorem dX4_beginNextLeg_26 : decode cX4_beginNextLeg 26 = .ok (.iaload, 1) := by decide +kernel
theorem dX4_beginNextLeg_27 : decode cX4_beginNextLeg 27 = .ok (.putfield 31, 3) := by decide +kernel
theorem dX4_beginNextLeg_30 : decode cX4_beginNextLeg 30 = .ok (.return_, 1) := by decide +kernel
set_option maxRecDepth 20000 in
theorem ggX4_letMinutePass_X4_isOnTheWay : GoodIn wsX4_letMinutePass wsX4_isOnTheWay := goodIn_r _ [6, 1, 7, 8, 9, 10, 11] (by decide +kernel) (by decide +kernel)
set_option maxRecDepth 20000 in
theorem gX4_letMinutePass_X4_isOnTheWay : GoodIn wsX4_letMinutePass (wsV RX4 46 RX4 yX4_isOnTheWay wsX4_isOnTheWay) := goodIn_app (goodIn_of _ (by decide +kernel)) ggX4_letMinutePass_X4_isOnTheWay
theorem dX4_letMinutePass_0 : decode cX4_letMinutePass 0 = .ok (.aload_n 0, 1) := by decide +kernel
theorem dX4_letMinutePass_1 : decode cX4_letMinutePass 1 = .ok (.invokevirtual 46, 3) := by decide +kernel
theorem dX4_letMinutePass_4 : decode cX4_letMinutePass 4 = .ok (.ifCond .eq 13, 3) := by decide +kernel
theorem dX4_letMinutePass_7 : decode cX4_letMinutePass 7 = .ok (.aload_n 0, 1) := by decide +kernel
theorem dX4_letMinutePass_8 : decode cX4_letMinutePass 8 = .ok (.dup, 1) := by decide +kernel
theorem dX4_letMinutePass_9 : decode cX4_letMinutePass 9 = .ok (.getfield 31, 3) := by decide +kernel
theorem dX4_letMinutePass_12 : decode cX4_letMinutePass 12 = .ok (.iconst 1, 1) := by decide +kernel
theorem dX4_letMinutePass_13 : decode cX4_letMinutePass 13 = .ok (.isub, 1) := by decide +kernel
theorem dX4_letMinutePass_14 : decode cX4_letMinutePass 14 = .ok (.putfield 31, 3) := by decide +kernel
theorem dX4_letMinutePass_17 : decode cX4_letMinutePass 17 = .ok (.return_, 1) := by decide +kernel
theorem dX5_init_0 : decode cX5_init 0 = .ok (.aload_n 0, 1) := by decide +kernel
theorem dX5_init_1 : decode cX5_init 1 = .ok (.invokespecial 3, 3) := by decide +kernel
theorem dX5_init_4 : decode cX5_init 4 = .ok (.aload_n 0, 1) := by decide +kernel
theorem dX5_init_5 : decode cX5_init 5 = .ok (.bipush 20, 2) := by decide +kernel
theorem dX5_init_7 : decode cX5_init 7 = .ok (.newarray .int, 2) := by decide +kernel
theorem dX5_init_9 : decode cX5_init 9 = .ok (.putfield 11, 3) := by decide +kernel
theorem dX5_init_12 : decode cX5_init 12 = .ok (.aload_n 0, 1) := by decide +kernel
theorem dX5_init_13 : decode cX5_init 13 = .ok (.bipush 20, 2) := by decide +kernel
theorem dX5_init_15 : decode cX5_init 15 = .ok (.newarray .int, 2) := by decide +kernel
theorem dX5_init_17 : decode cX5_init 17 = .ok (.putfield 15, 3) := by decide +kernel
theorem dX5_init_20 : decode cX5_init 20 = .ok (.return_, 1) := by decide +kernel
set_option maxRecDepth 20000 in
theorem ggX5_faultOf_X3_codeAt : GoodIn wsX5_faultOf wsX3_codeAt := goodIn_r _ [8, 9, 10, 11, 12, 13, 58, 59] (by decide +kernel) (by decide +kernel)
set_option maxRecDepth 20000 in
theorem gX5_faultOf_X3_codeAt : GoodIn wsX5_faultOf (wsV RX5 30 RX3 yX3_codeAt wsX3_codeAt) := goodIn_app (goodIn_of _ (by decide +kernel)) ggX5_faultOf_X3_codeAt
set_option maxRecDepth 20000 in
theorem ggX5_faultOf_X5_takes : GoodIn wsX5_faultOf wsX5_takes := goodIn_r _ [18, 2, 19, 20, 21, 17, 22, 23, 24, 25, 26, 11, 12, 13, 27, 28, 29, 30, 31, 32, 33, 34, 35, 36, 37, 38, 39, 40, 41, 42, 43, 44, 45, 46, 47, 48, 1, 49, 50, 51, 52, 53, 54, 55, 56, 57] (by decide +kernel) (by decide +kernel)
set_option maxRecDepth 20000 in
theorem gX5_faultOf_X5_takes : GoodIn wsX5_faultOf (wsV RX5 34 RX5 yX5_takes wsX5_takes) := goodIn_app (goodIn_of _ (by decide +kernel)) ggX5_faultOf_X5_takes
set_option maxRecDepth 20000 in
theorem ggX5_faultOf_X5_endLeg : GoodIn wsX5_faultOf wsX5_endLeg := goodIn_r _ [48, 1, 49, 31, 50, 32, 23, 2, 51, 52, 53, 54, 55, 56, 57] (by decide +kernel) (by decide +kernel)
set_option maxRecDepth 20000 in
theorem gX5_faultOf_X5_endLeg : GoodIn wsX5_faultOf (wsV RX5 38 RX5 yX5_endLeg wsX5_endLeg) := goodIn_app (goodIn_of _ (by decide +kernel)) ggX5_faultOf_X5_endLeg
theorem dX5_faultOf_0 : decode cX5_faultOf 0 = .ok (.aload_n 0, 1) := by decide +kernel
theorem dX5_faultOf_1 : decode cX5_faultOf 1 = .ok (.iconst 0, 1) := by decide +kernel
theorem dX5_faultOf_2 : decode cX5_faultOf 2 = .ok (.putfield 18, 3) := by decide +kernel
theorem dX5_faultOf_5 : decode cX5_faultOf 5 = .ok (.aload_n 0, 1) := by decide +kernel
theorem dX5_faultOf_6 : decode cX5_faultOf 6 = .ok (.iconst 0, 1) := by decide +kernel
theorem dX5_faultOf_7 : decode cX5_faultOf 7 = .ok (.putfield 22, 3) := by decide +kernel
theorem dX5_faultOf_10 : decode cX5_faultOf 10 = .ok (.iconst 0, 1) := by decide +kernel
theorem dX5_faultOf_11 : decode cX5_faultOf 11 = .ok (.istore_n 2, 1) := by decide +kernel
theorem dX5_faultOf_12 : decode cX5_faultOf 12 = .ok (.iload_n 2, 1) := by decide +kernel
theorem dX5_faultOf_13 : decode cX5_faultOf 13 = .ok (.aload_n 1, 1) := by decide +kernel
theorem dX5_faultOf_14 : decode cX5_faultOf 14 = .ok (.getfield 25, 3) := by decide +kernel
theorem dX5_faultOf_17 : decode cX5_faultOf 17 = .ok (.if_icmp .ge 23, 3) := by decide +kernel
theorem dX5_faultOf_20 : decode cX5_faultOf 20 = .ok (.aload_n 0, 1) := by decide +kernel
theorem dX5_faultOf_21 : decode cX5_faultOf 21 = .ok (.aload_n 1, 1) := by decide +kernel
theorem dX5_faultOf_22 : decode cX5_faultOf 22 = .ok (.iload_n 2, 1) := by decide +kernel
theorem dX5_faultOf_23 : decode cX5_faultOf 23 = .ok (.invokevirtual 30, 3) := by decide +kernel
theorem dX5_faultOf_26 : decode cX5_faultOf 26 = .ok (.invokevirtual 34, 3) := by decide +kernel
theorem dX5_faultOf_29 : decode cX5_faultOf 29 = .ok (.ifCond .ne 5, 3) := by decide +kernel
theorem dX5_faultOf_32 : decode cX5_faultOf 32 = .ok (.iload_n 2, 1) := by decide +kernel
theorem dX5_faultOf_33 : decode cX5_faultOf 33 = .ok (.ireturn, 1) := by decide +kernel
theorem dX5_faultOf_34 : decode cX5_faultOf 34 = .ok (.iinc 2 1, 3) := by decide +kernel
theorem dX5_faultOf_37 : decode cX5_faultOf 37 = .ok (.goto (-25), 3) := by decide +kernel
theorem dX5_faultOf_40 : decode cX5_faultOf 40 = .ok (.aload_n 0, 1) := by decide +kernel
theorem dX5_faultOf_41 : decode cX5_faultOf 41 = .ok (.getfield 22, 3) := by decide +kernel
theorem dX5_faultOf_44 : decode cX5_faultOf 44 = .ok (.iconst 4, 1) := by decide +kernel
theorem dX5_faultOf_45 : decode cX5_faultOf 45 = .ok (.if_icmp .eq 8, 3) := by decide +kernel
theorem dX5_faultOf_48 : decode cX5_faultOf 48 = .ok (.aload_n 1, 1) := by decide +kernel
theorem dX5_faultOf_49 : decode cX5_faultOf 49 = .ok (.getfield 25, 3) := by decide +kernel
theorem dX5_faultOf_52 : decode cX5_faultOf 52 = .ok (.ireturn, 1) := by decide +kernel
theorem dX5_faultOf_53 : decode cX5_faultOf 53 = .ok (.aload_n 0, 1) := by decide +kernel
theorem dX5_faultOf_54 : decode cX5_faultOf 54 = .ok (.invokevirtual 38, 3) := by decide +kernel
theorem dX5_faultOf_57 : decode cX5_faultOf 57 = .ok (.pop, 1) := by decide +kernel
theorem dX5_faultOf_58 : decode cX5_faultOf 58 = .ok (.bipush (-6), 2) := by decide +kernel
theorem dX5_faultOf_60 : decode cX5_faultOf 60 = .ok (.ireturn, 1) := by decide +kernel
set_option maxRecDepth 20000 in
theorem ggX5_durationOf_X9_within : GoodIn wsX5_durationOf wsX9_within := goodIn_r _ [4] (by decide +kernel) (by decide +kernel)
set_option maxRecDepth 20000 in
theorem gX5_durationOf_X9_within_n42 : GoodIn wsX5_durationOf (wsX9_within) := ggX5_durationOf_X9_within
theorem dX5_durationOf_0 : decode cX5_durationOf 0 = .ok (.iload_n 1, 1) := by decide +kernel
theorem dX5_durationOf_1 : decode cX5_durationOf 1 = .ok (.iconst 0, 1) := by decide +kernel
theorem dX5_durationOf_2 : decode cX5_durationOf 2 = .ok (.bipush 19, 2) := by decide +kernel
theorem dX5_durationOf_4 : decode cX5_durationOf 4 = .ok (.invokestatic 42, 3) := by decide +kernel
theorem dX5_durationOf_7 : decode cX5_durationOf 7 = .ok (.ifCond .eq 12, 3) := by decide +kernel
theorem dX5_durationOf_10 : decode cX5_durationOf 10 = .ok (.aload_n 0, 1) := by decide +kernel
theorem dX5_durationOf_11 : decode cX5_durationOf 11 = .ok (.getfield 11, 3) := by decide +kernel
theorem dX5_durationOf_14 : decode cX5_durationOf 14 = .ok (.iload_n 1, 1) := by decide +kernel
theorem dX5_durationOf_15 : decode cX5_durationOf 15 = .ok (.iaload, 1) := by decide +kernel
theorem dX5_durationOf_16 : decode cX5_durationOf 16 = .ok (.goto 4, 3) := by decide +kernel
theorem dX5_durationOf_19 : decode cX5_durationOf 19 = .ok (.iconst 0, 1) := by decide +kernel
theorem dX5_durationOf_20 : decode cX5_durationOf 20 = .ok (.ireturn, 1) := by decide +kernel
set_option maxRecDepth 20000 in
theorem ggX5_outsideOf_X9_within : GoodIn wsX5_outsideOf wsX9_within := goodIn_r _ [4] (by decide +kernel) (by decide +kernel)
set_option maxRecDepth 20000 in
theorem gX5_outsideOf_X9_within_n42 : GoodIn wsX5_outsideOf (wsX9_within) := ggX5_outsideOf_X9_within
theorem dX5_outsideOf_0 : decode cX5_outsideOf 0 = .ok (.iload_n 1, 1) := by decide +kernel
theorem dX5_outsideOf_1 : decode cX5_outsideOf 1 = .ok (.iconst 0, 1) := by decide +kernel
theorem dX5_outsideOf_2 : decode cX5_outsideOf 2 = .ok (.bipush 19, 2) := by decide +kernel
theorem dX5_outsideOf_4 : decode cX5_outsideOf 4 = .ok (.invokestatic 42, 3) := by decide +kernel
theorem dX5_outsideOf_7 : decode cX5_outsideOf 7 = .ok (.ifCond .eq 12, 3) := by decide +kernel
theorem dX5_outsideOf_10 : decode cX5_outsideOf 10 = .ok (.aload_n 0, 1) := by decide +kernel
theorem dX5_outsideOf_11 : decode cX5_outsideOf 11 = .ok (.getfield 15, 3) := by decide +kernel
theorem dX5_outsideOf_14 : decode cX5_outsideOf 14 = .ok (.iload_n 1, 1) := by decide +kernel
theorem dX5_outsideOf_15 : decode cX5_outsideOf 15 = .ok (.iaload, 1) := by decide +kernel
theorem dX5_outsideOf_16 : decode cX5_outsideOf 16 = .ok (.goto 4, 3) := by decide +kernel
theorem dX5_outsideOf_19 : decode cX5_outsideOf 19 = .ok (.iconst 0, 1) := by decide +kernel
theorem dX5_outsideOf_20 : decode cX5_outsideOf 20 = .ok (.ireturn, 1) := by decide +kernel
set_option maxRecDepth 20000 in
theorem ggX5_takes_X5_startsNumber : GoodIn wsX5_takes wsX5_startsNumber := goodIn_r _ [6, 7, 1, 8, 9, 5, 10, 11, 12, 13, 39, 40, 41, 42, 43, 44, 45] (by decide +kernel) (by decide +kernel)
set_option maxRecDepth 20000 in
theorem gX5_takes_X5_startsNumber : GoodIn wsX5_takes (wsV RX5 46 RX5 yX5_startsNumber wsX5_startsNumber) := goodIn_app (goodIn_of _ (by decide +kernel)) ggX5_takes_X5_startsNumber
set_option maxRecDepth 20000 in
theorem ggX5_takes_X5_endsDuration : GoodIn wsX5_takes wsX5_endsDuration := goodIn_r _ [17, 7, 18, 19, 1, 39, 40, 41, 42, 43, 44, 45] (by decide +kernel) (by decide +kernel)
set_option maxRecDepth 20000 in
theorem gX5_takes_X5_endsDuration : GoodIn wsX5_takes (wsV RX5 50 RX5 yX5_endsDuration wsX5_endsDuration) := goodIn_app (goodIn_of _ (by decide +kernel)) ggX5_takes_X5_endsDuration
set_option maxRecDepth 20000 in
theorem ggX5_takes_X5_continuesNumber : GoodIn wsX5_takes wsX5_continuesNumber := goodIn_r _ [23, 7, 8, 9, 5, 10, 11, 12, 13, 39, 40, 41, 42, 43, 44, 45] (by decide +kernel) (by decide +kernel)
set_option maxRecDepth 20000 in
theorem gX5_takes_X5_continuesNumber : GoodIn wsX5_takes (wsV RX5 53 RX5 yX5_continuesNumber wsX5_continuesNumber) := goodIn_app (goodIn_of _ (by decide +kernel)) ggX5_takes_X5_continuesNumber
set_option maxRecDepth 20000 in
theorem ggX5_takes_X5_startsDegrees : GoodIn wsX5_takes wsX5_startsDegrees := goodIn_r _ [27, 19, 1, 28, 29, 30, 5, 31, 2, 3, 4, 6, 7, 8, 9, 10, 11, 12, 13, 39, 40, 41, 42, 43, 44, 45] (by decide +kernel) (by decide +kernel)
set_option maxRecDepth 20000 in
theorem gX5_takes_X5_startsDegrees : GoodIn wsX5_takes (wsV RX5 57 RX5 yX5_startsDegrees wsX5_startsDegrees) := goodIn_app (goodIn_of _ (by decide +kernel)) ggX5_takes_X5_startsDegrees
set_option maxRecDepth 20000 in
theorem ggX5_takes_X5_mostDegrees : GoodIn wsX5_takes wsX5_mostDegrees := goodIn_r _ [31, 19, 39, 40, 41, 42, 43, 44, 45] (by decide +kernel) (by decide +kernel)
set_option maxRecDepth 20000 in
theorem gX5_takes_X5_mostDegrees : GoodIn wsX5_takes (wsV RX5 60 RX5 yX5_mostDegrees wsX5_mostDegrees) := goodIn_app (goodIn_of _ (by decide +kernel)) ggX5_takes_X5_mostDegrees
set_option maxRecDepth 20000 in
theorem ggX5_takes_X5_endLeg : GoodIn wsX5_takes wsX5_endLeg := goodIn_r _ [35, 36, 37, 18, 38, 19, 7, 1, 39, 40, 41, 42, 43, 44, 45] (by decide +kernel) (by decide +kernel)
set_option maxRecDepth 20000 in
theorem gX5_takes_X5_endLeg : GoodIn wsX5_takes (wsV RX5 38 RX5 yX5_endLeg wsX5_endLeg) := goodIn_app (goodIn_of _ (by decide +kernel)) ggX5_takes_X5_endLeg
theorem dX5_takes_0 : decode cX5_takes 0 = .ok (.aload_n 0, 1) := by decide +kernel
theorem dX5_takes_1 : decode cX5_takes 1 = .ok (.getfield 22, 3) := by decide +kernel
theorem dX5_takes_4 : decode cX5_takes 4 = .ok (.tableswitch 83 0 3 #[32, 43, 65, 71], 32) := by decide +kernel
theorem dX5_takes_36 : decode cX5_takes 36 = .ok (.aload_n 0, 1) := by decide +kernel
theorem dX5_takes_37 : decode cX5_takes 37 = .ok (.iload_n 1, 1) := by decide +kernel
theorem dX5_takes_38 : decode cX5_takes 38 = .ok (.iconst 1, 1) := by decide +kernel
theorem dX5_takes_39 : decode cX5_takes 39 = .ok (.sipush 600, 3) := by decide +kernel
theorem dX5_takes_42 : decode cX5_takes 42 = .ok (.iconst 1, 1) := by decide +kernel
theorem dX5_takes_43 : decode cX5_takes 43 = .ok (.invokevirtual 46, 3) := by decide +kernel
theorem dX5_takes_46 : decode cX5_takes 46 = .ok (.ireturn, 1) := by decide +kernel
theorem dX5_takes_47 : decode cX5_takes 47 = .ok (.iload_n 1, 1) := by decide +kernel
theorem dX5_takes_48 : decode cX5_takes 48 = .ok (.bipush 64, 2) := by decide +kernel
theorem dX5_takes_50 : decode cX5_takes 50 = .ok (.if_icmp .ne 10, 3) := by decide +kernel
theorem dX5_takes_53 : decode cX5_takes 53 = .ok (.aload_n 0, 1) := by decide +kernel
theorem dX5_takes_54 : decode cX5_takes 54 = .ok (.invokevirtual 50, 3) := by decide +kernel
theorem dX5_takes_57 : decode cX5_takes 57 = .ok (.goto 11, 3) := by decide +kernel
theorem dX5_takes_60 : decode cX5_takes 60 = .ok (.aload_n 0, 1) := by decide +kernel
theorem dX5_takes_61 : decode cX5_takes 61 = .ok (.iload_n 1, 1) := by decide +kernel
theorem dX5_takes_62 : decode cX5_takes 62 = .ok (.sipush 600, 3) := by decide +kernel
theorem dX5_takes_65 : decode cX5_takes 65 = .ok (.invokevirtual 53, 3) := by decide +kernel
theorem dX5_takes_68 : decode cX5_takes 68 = .ok (.ireturn, 1) := by decide +kernel
theorem dX5_takes_69 : decode cX5_takes 69 = .ok (.aload_n 0, 1) := by decide +kernel
theorem dX5_takes_70 : decode cX5_takes 70 = .ok (.iload_n 1, 1) := by decide +kernel
theorem dX5_takes_71 : decode cX5_takes 71 = .ok (.invokevirtual 57, 3) := by decide +kernel
theorem dX5_takes_74 : decode cX5_takes 74 = .ok (.ireturn, 1) := by decide +kernel
theorem dX5_takes_75 : decode cX5_takes 75 = .ok (.aload_n 0, 1) := by decide +kernel
theorem dX5_takes_76 : decode cX5_takes 76 = .ok (.iload_n 1, 1) := by decide +kernel
theorem dX5_takes_77 : decode cX5_takes 77 = .ok (.iconst 0, 1) := by decide +kernel
theorem dX5_takes_78 : decode cX5_takes 78 = .ok (.aload_n 0, 1) := by decide +kernel
theorem dX5_takes_79 : decode cX5_takes 79 = .ok (.invokevirtual 60, 3) := by decide +kernel
theorem dX5_takes_82 : decode cX5_takes 82 = .ok (.iconst 4, 1) := by decide +kernel
theorem dX5_takes_83 : decode cX5_takes 83 = .ok (.invokevirtual 46, 3) := by decide +kernel
theorem dX5_takes_86 : decode cX5_takes 86 = .ok (.ireturn, 1) := by decide +kernel
theorem dX5_takes_87 : decode cX5_takes 87 = .ok (.iload_n 1, 1) := by decide +kernel
theorem dX5_takes_88 : decode cX5_takes 88 = .ok (.bipush 44, 2) := by decide +kernel
theorem dX5_takes_90 : decode cX5_takes 90 = .ok (.if_icmp .ne 10, 3) := by decide +kernel
theorem dX5_takes_93 : decode cX5_takes 93 = .ok (.aload_n 0, 1) := by decide +kernel
theorem dX5_takes_94 : decode cX5_takes 94 = .ok (.invokevirtual 38, 3) := by decide +kernel
theorem dX5_takes_97 : decode cX5_takes 97 = .ok (.goto 12, 3) := by decide +kernel
theorem dX5_takes_100 : decode cX5_takes 100 = .ok (.aload_n 0, 1) := by decide +kernel
theorem dX5_takes_101 : decode cX5_takes 101 = .ok (.iload_n 1, 1) := by decide +kernel
theorem dX5_takes_102 : decode cX5_takes 102 = .ok (.aload_n 0, 1) := by decide +kernel
theorem dX5_takes_103 : decode cX5_takes 103 = .ok (.invokevirtual 60, 3) := by decide +kernel
theorem dX5_takes_106 : decode cX5_takes 106 = .ok (.invokevirtual 53, 3) := by decide +kernel
theorem dX5_takes_109 : decode cX5_takes 109 = .ok (.ireturn, 1) := by decide +kernel
set_option maxRecDepth 20000 in
theorem ggX5_startsNumber_X5_isDigit : GoodIn wsX5_startsNumber wsX5_isDigit := goodIn_r _ [6, 7, 8, 9] (by decide +kernel) (by decide +kernel)
set_option maxRecDepth 20000 in
theorem gX5_startsNumber_X5_isDigit : GoodIn wsX5_startsNumber (va_wsS RX5 67 yX5_isDigit wsX5_isDigit) := goodIn_app (goodIn_of _ (by decide +kernel)) ggX5_startsNumber_X5_isDigit
set_option maxRecDepth 20000 in
theorem ggX5_startsNumber_X9_within : GoodIn wsX5_startsNumber wsX9_within := goodIn_r _ [9] (by decide +kernel) (by decide +kernel)
set_option maxRecDepth 20000 in
theorem gX5_startsNumber_X9_within_n42 : GoodIn wsX5_startsNumber (wsX9_within) := ggX5_startsNumber_X9_within
theorem dX5_startsNumber_0 : decode cX5_startsNumber 0 = .ok (.aload_n 0, 1) := by decide +kernel
theorem dX5_startsNumber_1 : decode cX5_startsNumber 1 = .ok (.iload_n 1, 1) := by decide +kernel
theorem dX5_startsNumber_2 : decode cX5_startsNumber 2 = .ok (.bipush 48, 2) := by decide +kernel
theorem dX5_startsNumber_4 : decode cX5_startsNumber 4 = .ok (.isub, 1) := by decide +kernel
theorem dX5_startsNumber_5 : decode cX5_startsNumber 5 = .ok (.putfield 64, 3) := by decide +kernel
theorem dX5_startsNumber_8 : decode cX5_startsNumber 8 = .ok (.aload_n 0, 1) := by decide +kernel
theorem dX5_startsNumber_9 : decode cX5_startsNumber 9 = .ok (.iload 4, 2) := by decide +kernel
theorem dX5_startsNumber_11 : decode cX5_startsNumber 11 = .ok (.putfield 22, 3) := by decide +kernel
theorem dX5_startsNumber_14 : decode cX5_startsNumber 14 = .ok (.iload_n 1, 1) := by decide +kernel
theorem dX5_startsNumber_15 : decode cX5_startsNumber 15 = .ok (.invokestatic 67, 3) := by decide +kernel
theorem dX5_startsNumber_18 : decode cX5_startsNumber 18 = .ok (.ifCond .eq 19, 3) := by decide +kernel
theorem dX5_startsNumber_21 : decode cX5_startsNumber 21 = .ok (.aload_n 0, 1) := by decide +kernel
theorem dX5_startsNumber_22 : decode cX5_startsNumber 22 = .ok (.getfield 64, 3) := by decide +kernel
theorem dX5_startsNumber_25 : decode cX5_startsNumber 25 = .ok (.iload_n 2, 1) := by decide +kernel
theorem dX5_startsNumber_26 : decode cX5_startsNumber 26 = .ok (.iload_n 3, 1) := by decide +kernel
theorem dX5_startsNumber_27 : decode cX5_startsNumber 27 = .ok (.invokestatic 42, 3) := by decide +kernel
theorem dX5_startsNumber_30 : decode cX5_startsNumber 30 = .ok (.ifCond .eq 7, 3) := by decide +kernel
theorem dX5_startsNumber_33 : decode cX5_startsNumber 33 = .ok (.iconst 1, 1) := by decide +kernel
theorem dX5_startsNumber_34 : decode cX5_startsNumber 34 = .ok (.goto 4, 3) := by decide +kernel
theorem dX5_startsNumber_37 : decode cX5_startsNumber 37 = .ok (.iconst 0, 1) := by decide +kernel
theorem dX5_startsNumber_38 : decode cX5_startsNumber 38 = .ok (.ireturn, 1) := by decide +kernel
set_option maxRecDepth 20000 in
theorem ggX5_continuesNumber_X5_isDigit : GoodIn wsX5_continuesNumber wsX5_isDigit := goodIn_r _ [5, 6, 7, 8] (by decide +kernel) (by decide +kernel)
set_option maxRecDepth 20000 in
theorem gX5_continuesNumber_X5_isDigit : GoodIn wsX5_continuesNumber (va_wsS RX5 67 yX5_isDigit wsX5_isDigit) := goodIn_app (goodIn_of _ (by decide +kernel)) ggX5_continuesNumber_X5_isDigit
theorem dX5_continuesNumber_0 : decode cX5_continuesNumber 0 = .ok (.iload_n 1, 1) := by decide +kernel
theorem dX5_continuesNumber_1 : decode cX5_continuesNumber 1 = .ok (.invokestatic 67, 3) := by decide +kernel
theorem dX5_continuesNumber_4 : decode cX5_continuesNumber 4 = .ok (.ifCond .eq 10, 3) := by decide +kernel
theorem dX5_continuesNumber_7 : decode cX5_continuesNumber 7 = .ok (.aload_n 0, 1) := by decide +kernel
theorem dX5_continuesNumber_8 : decode cX5_continuesNumber 8 = .ok (.getfield 64, 3) := by decide +kernel
theorem dX5_continuesNumber_11 : decode cX5_continuesNumber 11 = .ok (.ifCond .ne 5, 3) := by decide +kernel
theorem dX5_continuesNumber_14 : decode cX5_continuesNumber 14 = .ok (.iconst 0, 1) := by decide +kernel
theorem dX5_continuesNumber_15 : decode cX5_continuesNumber 15 = .ok (.ireturn, 1) := by decide +kernel
theorem dX5_continuesNumber_16 : decode cX5_continuesNumber 16 = .ok (.aload_n 0, 1) := by decide +kernel
theorem dX5_continuesNumber_17 : decode cX5_continuesNumber 17 = .ok (.aload_n 0, 1) := by decide +kernel
theorem dX5_continuesNumber_18 : decode cX5_continuesNumber 18 = .ok (.getfield 64, 3) := by decide +kernel
theorem dX5_continuesNumber_21 : decode cX5_continuesNumber 21 = .ok (.bipush 10, 2) := by decide +kernel
theorem dX5_continuesNumber_23 : decode cX5_continuesNumber 23 = .ok (.imul, 1) := by decide +kernel
theorem dX5_continuesNumber_24 : decode cX5_continuesNumber 24 = .ok (.iload_n 1, 1) := by decide +kernel
theorem dX5_continuesNumber_25 : decode cX5_continuesNumber 25 = .ok (.iadd, 1) := by decide +kernel
theorem dX5_continuesNumber_26 : decode cX5_continuesNumber 26 = .ok (.bipush 48, 2) := by decide +kernel
theorem dX5_continuesNumber_28 : decode cX5_continuesNumber 28 = .ok (.isub, 1) := by decide +kernel
theorem dX5_continuesNumber_29 : decode cX5_continuesNumber 29 = .ok (.putfield 64, 3) := by decide +kernel
theorem dX5_continuesNumber_32 : decode cX5_continuesNumber 32 = .ok (.aload_n 0, 1) := by decide +kernel
theorem dX5_continuesNumber_33 : decode cX5_continuesNumber 33 = .ok (.getfield 64, 3) := by decide +kernel
theorem dX5_continuesNumber_36 : decode cX5_continuesNumber 36 = .ok (.iload_n 2, 1) := by decide +kernel
theorem dX5_continuesNumber_37 : decode cX5_continuesNumber 37 = .ok (.if_icmp .gt 7, 3) := by decide +kernel
theorem dX5_continuesNumber_40 : decode cX5_continuesNumber 40 = .ok (.iconst 1, 1) := by decide +kernel
theorem dX5_continuesNumber_41 : decode cX5_continuesNumber 41 = .ok (.goto 4, 3) := by decide +kernel
theorem dX5_continuesNumber_44 : decode cX5_continuesNumber 44 = .ok (.iconst 0, 1) := by decide +kernel
theorem dX5_continuesNumber_45 : decode cX5_continuesNumber 45 = .ok (.ireturn, 1) := by decide +kernel
theorem dX5_endsDuration_0 : decode cX5_endsDuration 0 = .ok (.aload_n 0, 1) := by decide +kernel
theorem dX5_endsDuration_1 : decode cX5_endsDuration 1 = .ok (.aload_n 0, 1) := by decide +kernel
theorem dX5_endsDuration_2 : decode cX5_endsDuration 2 = .ok (.getfield 64, 3) := by decide +kernel
theorem dX5_endsDuration_5 : decode cX5_endsDuration 5 = .ok (.putfield 70, 3) := by decide +kernel
theorem dX5_endsDuration_8 : decode cX5_endsDuration 8 = .ok (.aload_n 0, 1) := by decide +kernel
theorem dX5_endsDuration_9 : decode cX5_endsDuration 9 = .ok (.iconst 0, 1) := by decide +kernel
theorem dX5_endsDuration_10 : decode cX5_endsDuration 10 = .ok (.putfield 73, 3) := by decide +kernel
theorem dX5_endsDuration_13 : decode cX5_endsDuration 13 = .ok (.aload_n 0, 1) := by decide +kernel
theorem dX5_endsDuration_14 : decode cX5_endsDuration 14 = .ok (.iconst 2, 1) := by decide +kernel
theorem dX5_endsDuration_15 : decode cX5_endsDuration 15 = .ok (.putfield 22, 3) := by decide +kernel
theorem dX5_endsDuration_18 : decode cX5_endsDuration 18 = .ok (.iconst 1, 1) := by decide +kernel
theorem dX5_endsDuration_19 : decode cX5_endsDuration 19 = .ok (.ireturn, 1) := by decide +kernel
set_option maxRecDepth 20000 in
theorem ggX5_startsDegrees_X5_mostDegrees : GoodIn wsX5_startsDegrees wsX5_mostDegrees := goodIn_r _ [7, 1, 19, 20, 21, 22, 23, 24, 25] (by decide +kernel) (by decide +kernel)
set_option maxRecDepth 20000 in
theorem gX5_startsDegrees_X5_mostDegrees : GoodIn wsX5_startsDegrees (wsV RX5 60 RX5 yX5_mostDegrees wsX5_mostDegrees) := goodIn_app (goodIn_of _ (by decide +kernel)) ggX5_startsDegrees_X5_mostDegrees
set_option maxRecDepth 20000 in
theorem ggX5_startsDegrees_X5_startsNumber : GoodIn wsX5_startsDegrees wsX5_startsNumber := goodIn_r _ [11, 12, 2, 13, 14, 6, 15, 16, 17, 18, 19, 20, 21, 22, 23, 24, 25] (by decide +kernel) (by decide +kernel)
set_option maxRecDepth 20000 in
theorem gX5_startsDegrees_X5_startsNumber : GoodIn wsX5_startsDegrees (wsV RX5 46 RX5 yX5_startsNumber wsX5_startsNumber) := goodIn_app (goodIn_of _ (by decide +kernel)) ggX5_startsDegrees_X5_startsNumber
theorem dX5_startsDegrees_0 : decode cX5_startsDegrees 0 = .ok (.iload_n 1, 1) := by decide +kernel
theorem dX5_startsDegrees_1 : decode cX5_startsDegrees 1 = .ok (.bipush 45, 2) := by decide +kernel
theorem dX5_startsDegrees_3 : decode cX5_startsDegrees 3 = .ok (.if_icmp .eq 15, 3) := by decide +kernel
theorem dX5_startsDegrees_6 : decode cX5_startsDegrees 6 = .ok (.aload_n 0, 1) := by decide +kernel
theorem dX5_startsDegrees_7 : decode cX5_startsDegrees 7 = .ok (.iload_n 1, 1) := by decide +kernel
theorem dX5_startsDegrees_8 : decode cX5_startsDegrees 8 = .ok (.iconst 0, 1) := by decide +kernel
theorem dX5_startsDegrees_9 : decode cX5_startsDegrees 9 = .ok (.aload_n 0, 1) := by decide +kernel
theorem dX5_startsDegrees_10 : decode cX5_startsDegrees 10 = .ok (.invokevirtual 60, 3) := by decide +kernel
theorem dX5_startsDegrees_13 : decode cX5_startsDegrees 13 = .ok (.iconst 4, 1) := by decide +kernel
theorem dX5_startsDegrees_14 : decode cX5_startsDegrees 14 = .ok (.invokevirtual 46, 3) := by decide +kernel
theorem dX5_startsDegrees_17 : decode cX5_startsDegrees 17 = .ok (.ireturn, 1) := by decide +kernel
theorem dX5_startsDegrees_18 : decode cX5_startsDegrees 18 = .ok (.aload_n 0, 1) := by decide +kernel
theorem dX5_startsDegrees_19 : decode cX5_startsDegrees 19 = .ok (.iconst 1, 1) := by decide +kernel
theorem dX5_startsDegrees_20 : decode cX5_startsDegrees 20 = .ok (.putfield 73, 3) := by decide +kernel
theorem dX5_startsDegrees_23 : decode cX5_startsDegrees 23 = .ok (.aload_n 0, 1) := by decide +kernel
theorem dX5_startsDegrees_24 : decode cX5_startsDegrees 24 = .ok (.iconst 3, 1) := by decide +kernel
theorem dX5_startsDegrees_25 : decode cX5_startsDegrees 25 = .ok (.putfield 22, 3) := by decide +kernel
theorem dX5_startsDegrees_28 : decode cX5_startsDegrees 28 = .ok (.iconst 1, 1) := by decide +kernel
theorem dX5_startsDegrees_29 : decode cX5_startsDegrees 29 = .ok (.ireturn, 1) := by decide +kernel
theorem dX5_mostDegrees_0 : decode cX5_mostDegrees 0 = .ok (.aload_n 0, 1) := by decide +kernel
theorem dX5_mostDegrees_1 : decode cX5_mostDegrees 1 = .ok (.getfield 73, 3) := by decide +kernel
theorem dX5_mostDegrees_4 : decode cX5_mostDegrees 4 = .ok (.ifCond .eq 8, 3) := by decide +kernel
theorem dX5_mostDegrees_7 : decode cX5_mostDegrees 7 = .ok (.bipush 40, 2) := by decide +kernel
theorem dX5_mostDegrees_9 : decode cX5_mostDegrees 9 = .ok (.goto 5, 3) := by decide +kernel
theorem dX5_mostDegrees_12 : decode cX5_mostDegrees 12 = .ok (.bipush 50, 2) := by decide +kernel
theorem dX5_mostDegrees_14 : decode cX5_mostDegrees 14 = .ok (.ireturn, 1) := by decide +kernel
theorem dX5_endLeg_0 : decode cX5_endLeg 0 = .ok (.aload_n 0, 1) := by decide +kernel
theorem dX5_endLeg_1 : decode cX5_endLeg 1 = .ok (.getfield 18, 3) := by decide +kernel
theorem dX5_endLeg_4 : decode cX5_endLeg 4 = .ok (.bipush 20, 2) := by decide +kernel
theorem dX5_endLeg_6 : decode cX5_endLeg 6 = .ok (.if_icmp .ge 57, 3) := by decide +kernel
theorem dX5_endLeg_9 : decode cX5_endLeg 9 = .ok (.aload_n 0, 1) := by decide +kernel
theorem dX5_endLeg_10 : decode cX5_endLeg 10 = .ok (.getfield 11, 3) := by decide +kernel
theorem dX5_endLeg_13 : decode cX5_endLeg 13 = .ok (.aload_n 0, 1) := by decide +kernel
theorem dX5_endLeg_14 : decode cX5_endLeg 14 = .ok (.getfield 18, 3) := by decide +kernel
theorem dX5_endLeg_17 : decode cX5_endLeg 17 = .ok (.aload_n 0, 1) := by decide +kernel
theorem dX5_endLeg_18 : decode cX5_endLeg 18 = .ok (.getfield 70, 3) := by decide +kernel
theorem dX5_endLeg_21 : decode cX5_endLeg 21 = .ok (.iastore, 1) := by decide +kernel
theorem dX5_endLeg_22 : decode cX5_endLeg 22 = .ok (.aload_n 0, 1) := by decide +kernel
theorem dX5_endLeg_23 : decode cX5_endLeg 23 = .ok (.getfield 15, 3) := by decide +kernel
theorem dX5_endLeg_26 : decode cX5_endLeg 26 = .ok (.aload_n 0, 1) := by decide +kernel
theorem dX5_endLeg_27 : decode cX5_endLeg 27 = .ok (.getfield 18, 3) := by decide +kernel
theorem dX5_endLeg_30 : decode cX5_endLeg 30 = .ok (.aload_n 0, 1) := by decide +kernel
theorem dX5_endLeg_31 : decode cX5_endLeg 31 = .ok (.getfield 73, 3) := by decide +kernel
theorem dX5_endLeg_34 : decode cX5_endLeg 34 = .ok (.ifCond .eq 11, 3) := by decide +kernel
theorem dX5_endLeg_37 : decode cX5_endLeg 37 = .ok (.aload_n 0, 1) := by decide +kernel
theorem dX5_endLeg_38 : decode cX5_endLeg 38 = .ok (.getfield 64, 3) := by decide +kernel
theorem dX5_endLeg_41 : decode cX5_endLeg 41 = .ok (.ineg, 1) := by decide +kernel
theorem dX5_endLeg_42 : decode cX5_endLeg 42 = .ok (.goto 7, 3) := by decide +kernel
theorem dX5_endLeg_45 : decode cX5_endLeg 45 = .ok (.aload_n 0, 1) := by decide +kernel
theorem dX5_endLeg_46 : decode cX5_endLeg 46 = .ok (.getfield 64, 3) := by decide +kernel
theorem dX5_endLeg_49 : decode cX5_endLeg 49 = .ok (.bipush 100, 2) := by decide +kernel
theorem dX5_endLeg_51 : decode cX5_endLeg 51 = .ok (.imul, 1) := by decide +kernel
theorem dX5_endLeg_52 : decode cX5_endLeg 52 = .ok (.iastore, 1) := by decide +kernel
theorem dX5_endLeg_53 : decode cX5_endLeg 53 = .ok (.aload_n 0, 1) := by decide +kernel
theorem dX5_endLeg_54 : decode cX5_endLeg 54 = .ok (.dup, 1) := by decide +kernel
theorem dX5_endLeg_55 : decode cX5_endLeg 55 = .ok (.getfield 18, 3) := by decide +kernel
theorem dX5_endLeg_58 : decode cX5_endLeg 58 = .ok (.iconst 1, 1) := by decide +kernel
theorem dX5_endLeg_59 : decode cX5_endLeg 59 = .ok (.iadd, 1) := by decide +kernel
theorem dX5_endLeg_60 : decode cX5_endLeg 60 = .ok (.putfield 18, 3) := by decide +kernel
theorem dX5_endLeg_63 : decode cX5_endLeg 63 = .ok (.aload_n 0, 1) := by decide +kernel
theorem dX5_endLeg_64 : decode cX5_endLeg 64 = .ok (.iconst 0, 1) := by decide +kernel
theorem dX5_endLeg_65 : decode cX5_endLeg 65 = .ok (.putfield 22, 3) := by decide +kernel
theorem dX5_endLeg_68 : decode cX5_endLeg 68 = .ok (.iconst 1, 1) := by decide +kernel
theorem dX5_endLeg_69 : decode cX5_endLeg 69 = .ok (.ireturn, 1) := by decide +kernel
set_option maxRecDepth 20000 in
theorem ggX5_isDigit_X9_within : GoodIn wsX5_isDigit wsX9_within := goodIn_r _ [3] (by decide +kernel) (by decide +kernel)
set_option maxRecDepth 20000 in
theorem gX5_isDigit_X9_within_n42 : GoodIn wsX5_isDigit (wsX9_within) := ggX5_isDigit_X9_within
theorem dX5_isDigit_0 : decode cX5_isDigit 0 = .ok (.iload_n 0, 1) := by decide +kernel
theorem dX5_isDigit_1 : decode cX5_isDigit 1 = .ok (.bipush 48, 2) := by decide +kernel
theorem dX5_isDigit_3 : decode cX5_isDigit 3 = .ok (.bipush 57, 2) := by decide +kernel
theorem dX5_isDigit_5 : decode cX5_isDigit 5 = .ok (.invokestatic 42, 3) := by decide +kernel
theorem dX5_isDigit_8 : decode cX5_isDigit 8 = .ok (.ireturn, 1) := by decide +kernel
theorem dX6_init_0 : decode cX6_init 0 = .ok (.aload_n 0, 1) := by decide +kernel
theorem dX6_init_1 : decode cX6_init 1 = .ok (.invokespecial 3, 3) := by decide +kernel
theorem dX6_init_4 : decode cX6_init 4 = .ok (.aload_n 0, 1) := by decide +kernel
theorem dX6_init_5 : decode cX6_init 5 = .ok (.getstatic 9, 3) := by decide +kernel
theorem dX6_init_8 : decode cX6_init 8 = .ok (.invokevirtual 13, 3) := by decide +kernel
theorem dX6_init_11 : decode cX6_init 11 = .ok (.checkcast 14, 3) := by decide +kernel
theorem dX6_init_14 : decode cX6_init 14 = .ok (.putfield 18, 3) := by decide +kernel
theorem dX6_init_17 : decode cX6_init 17 = .ok (.return_, 1) := by decide +kernel
theorem dX6_becomeLike_0 : decode cX6_becomeLike 0 = .ok (.aload_n 1, 1) := by decide +kernel
theorem dX6_becomeLike_1 : decode cX6_becomeLike 1 = .ok (.getfield 18, 3) := by decide +kernel
theorem dX6_becomeLike_4 : decode cX6_becomeLike 4 = .ok (.iconst 0, 1) := by decide +kernel
theorem dX6_becomeLike_5 : decode cX6_becomeLike 5 = .ok (.aload_n 0, 1) := by decide +kernel
theorem dX6_becomeLike_6 : decode cX6_becomeLike 6 = .ok (.getfield 18, 3) := by decide +kernel
theorem dX6_becomeLike_9 : decode cX6_becomeLike 9 = .ok (.iconst 0, 1) := by decide +kernel
theorem dX6_becomeLike_10 : decode cX6_becomeLike 10 = .ok (.aload_n 0, 1) := by decide +kernel
theorem dX6_becomeLike_11 : decode cX6_becomeLike 11 = .ok (.getfield 18, 3) := by decide +kernel
theorem dX6_becomeLike_14 : decode cX6_becomeLike 14 = .ok (.arraylength, 1) := by decide +kernel
theorem dX6_becomeLike_15 : decode cX6_becomeLike 15 = .ok (.invokestatic 23, 3) := by decide +kernel
theorem dX6_becomeLike_18 : decode cX6_becomeLike 18 = .ok (.return_, 1) := by decide +kernel
set_option maxRecDepth 20000 in
theorem ggX6_allows_X9_within : GoodIn wsX6_allows wsX9_within := goodIn_r _ [3] (by decide +kernel) (by decide +kernel)
set_option maxRecDepth 20000 in
theorem gX6_allows_X9_within_n29 : GoodIn wsX6_allows (wsX9_within) := ggX6_allows_X9_within
theorem dX6_allows_0 : decode cX6_allows 0 = .ok (.iload_n 1, 1) := by decide +kernel
theorem dX6_allows_1 : decode cX6_allows 1 = .ok (.iconst 0, 1) := by decide +kernel
theorem dX6_allows_2 : decode cX6_allows 2 = .ok (.bipush 10, 2) := by decide +kernel
theorem dX6_allows_4 : decode cX6_allows 4 = .ok (.invokestatic 29, 3) := by decide +kernel
theorem dX6_allows_7 : decode cX6_allows 7 = .ok (.ifCond .eq 24, 3) := by decide +kernel
theorem dX6_allows_10 : decode cX6_allows 10 = .ok (.iload_n 2, 1) := by decide +kernel
theorem dX6_allows_11 : decode cX6_allows 11 = .ok (.getstatic 33, 3) := by decide +kernel
theorem dX6_allows_14 : decode cX6_allows 14 = .ok (.iload_n 1, 1) := by decide +kernel
theorem dX6_allows_15 : decode cX6_allows 15 = .ok (.iaload, 1) := by decide +kernel
theorem dX6_allows_16 : decode cX6_allows 16 = .ok (.getstatic 36, 3) := by decide +kernel
theorem dX6_allows_19 : decode cX6_allows 19 = .ok (.iload_n 1, 1) := by decide +kernel
theorem dX6_allows_20 : decode cX6_allows 20 = .ok (.iaload, 1) := by decide +kernel
theorem dX6_allows_21 : decode cX6_allows 21 = .ok (.invokestatic 29, 3) := by decide +kernel
theorem dX6_allows_24 : decode cX6_allows 24 = .ok (.ifCond .eq 7, 3) := by decide +kernel
theorem dX6_allows_27 : decode cX6_allows 27 = .ok (.iconst 1, 1) := by decide +kernel
theorem dX6_allows_28 : decode cX6_allows 28 = .ok (.goto 4, 3) := by decide +kernel
theorem dX6_allows_31 : decode cX6_allows 31 = .ok (.iconst 0, 1) := by decide +kernel
theorem dX6_allows_32 : decode cX6_allows 32 = .ok (.ireturn, 1) := by decide +kernel
set_option maxRecDepth 20000 in
theorem ggX6_value_X9_within : GoodIn wsX6_value wsX9_within := goodIn_r _ [4] (by decide +kernel) (by decide +kernel)
set_option maxRecDepth 20000 in
theorem gX6_value_X9_within_n29 : GoodIn wsX6_value (wsX9_within) := ggX6_value_X9_within
theorem dX6_value_0 : decode cX6_value 0 = .ok (.iload_n 1, 1) := by decide +kernel
theorem dX6_value_1 : decode cX6_value 1 = .ok (.iconst 0, 1) := by decide +kernel
theorem dX6_value_2 : decode cX6_value 2 = .ok (.bipush 10, 2) := by decide +kernel
theorem dX6_value_4 : decode cX6_value 4 = .ok (.invokestatic 29, 3) := by decide +kernel
theorem dX6_value_7 : decode cX6_value 7 = .ok (.ifCond .eq 12, 3) := by decide +kernel
theorem dX6_value_10 : decode cX6_value 10 = .ok (.aload_n 0, 1) := by decide +kernel
theorem dX6_value_11 : decode cX6_value 11 = .ok (.getfield 18, 3) := by decide +kernel
theorem dX6_value_14 : decode cX6_value 14 = .ok (.iload_n 1, 1) := by decide +kernel
theorem dX6_value_15 : decode cX6_value 15 = .ok (.iaload, 1) := by decide +kernel
theorem dX6_value_16 : decode cX6_value 16 = .ok (.goto 4, 3) := by decide +kernel
theorem dX6_value_19 : decode cX6_value 19 = .ok (.iconst 0, 1) := by decide +kernel
theorem dX6_value_20 : decode cX6_value 20 = .ok (.ireturn, 1) := by decide +kernel
set_option maxRecDepth 20000 in
theorem ggX6_change_X6_value : GoodIn wsX6_change wsX6_value := goodIn_r _ [6, 1, 7, 8, 9, 14] (by decide +kernel) (by decide +kernel)
set_option maxRecDepth 20000 in
theorem gX6_change_X6_value : GoodIn wsX6_change (wsV RX6 39 RX6 yX6_value wsX6_value) := goodIn_app (goodIn_of _ (by decide +kernel)) ggX6_change_X6_value
set_option maxRecDepth 20000 in
theorem ggX6_change_X6_allows : GoodIn wsX6_change wsX6_allows := goodIn_r _ [13, 7, 8, 9] (by decide +kernel) (by decide +kernel)
set_option maxRecDepth 20000 in
theorem gX6_change_X6_allows : GoodIn wsX6_change (wsV RX6 43 RX6 yX6_allows wsX6_allows) := goodIn_app (goodIn_of _ (by decide +kernel)) ggX6_change_X6_allows
theorem dX6_change_0 : decode cX6_change 0 = .ok (.aload_n 0, 1) := by decide +kernel
theorem dX6_change_1 : decode cX6_change 1 = .ok (.iload_n 1, 1) := by decide +kernel
theorem dX6_change_2 : decode cX6_change 2 = .ok (.invokevirtual 39, 3) := by decide +kernel
theorem dX6_change_5 : decode cX6_change 5 = .ok (.istore_n 3, 1) := by decide +kernel
theorem dX6_change_6 : decode cX6_change 6 = .ok (.aload_n 0, 1) := by decide +kernel
theorem dX6_change_7 : decode cX6_change 7 = .ok (.iload_n 1, 1) := by decide +kernel
theorem dX6_change_8 : decode cX6_change 8 = .ok (.iload_n 2, 1) := by decide +kernel
theorem dX6_change_9 : decode cX6_change 9 = .ok (.invokevirtual 43, 3) := by decide +kernel
theorem dX6_change_12 : decode cX6_change 12 = .ok (.ifCond .eq 10, 3) := by decide +kernel
theorem dX6_change_15 : decode cX6_change 15 = .ok (.aload_n 0, 1) := by decide +kernel
theorem dX6_change_16 : decode cX6_change 16 = .ok (.getfield 18, 3) := by decide +kernel
theorem dX6_change_19 : decode cX6_change 19 = .ok (.iload_n 1, 1) := by decide +kernel
theorem dX6_change_20 : decode cX6_change 20 = .ok (.iload_n 2, 1) := by decide +kernel
theorem dX6_change_21 : decode cX6_change 21 = .ok (.iastore, 1) := by decide +kernel
theorem dX6_change_22 : decode cX6_change 22 = .ok (.iload_n 3, 1) := by decide +kernel
theorem dX6_change_23 : decode cX6_change 23 = .ok (.ireturn, 1) := by decide +kernel
set_option maxRecDepth 20000 in
theorem ggX7_init_X8_init : GoodIn wsX7_init wsX8_init := goodIn_r _ [9, 10, 2, 3, 11, 12, 13, 14, 15, 16, 17, 18, 19, 20, 21, 22, 23, 24, 25, 26, 27, 28, 29, 30, 31, 32, 33, 34, 35, 36, 37, 38, 39, 40, 41, 42, 43, 44, 45, 46, 47, 48, 49, 50, 51, 52, 53, 54, 55, 56, 57, 58, 59, 72, 60, 61, 62, 63, 64, 65, 66, 67, 68, 69, 73, 74, 75, 76, 77, 78, 79, 80, 81, 82, 83, 84, 85, 86, 87, 88, 89, 90] (by decide +kernel) (by decide +kernel)
set_option maxRecDepth 20000 in
theorem gX7_init_X8_init_n9 : GoodIn wsX7_init (wsX8_init) := ggX7_init_X8_init
theorem dX7_init_0 : decode cX7_init 0 = .ok (.aload_n 0, 1) := by decide +kernel
theorem dX7_init_1 : decode cX7_init 1 = .ok (.invokespecial 1, 3) := by decide +kernel
theorem dX7_init_4 : decode cX7_init 4 = .ok (.aload_n 0, 1) := by decide +kernel
theorem dX7_init_5 : decode cX7_init 5 = .ok (.new 7, 3) := by decide +kernel
theorem dX7_init_8 : decode cX7_init 8 = .ok (.dup, 1) := by decide +kernel
theorem dX7_init_9 : decode cX7_init 9 = .ok (.invokespecial 9, 3) := by decide +kernel
theorem dX7_init_12 : decode cX7_init 12 = .ok (.putfield 10, 3) := by decide +kernel
theorem dX7_init_15 : decode cX7_init 15 = .ok (.return_, 1) := by decide +kernel
set_option maxRecDepth 20000 in
theorem ggX8_init_X6_init : GoodIn wsX8_init wsX6_init := goodIn_r _ [21, 22, 2, 3, 23, 24, 25, 26, 27, 28, 29, 53] (by decide +kernel) (by decide +kernel)
set_option maxRecDepth 20000 in
theorem gX8_init_X6_init_n11 : GoodIn wsX8_init (wsX6_init) := ggX8_init_X6_init
set_option maxRecDepth 20000 in
theorem ggX8_init_X2_init : GoodIn wsX8_init wsX2_init := goodIn_r _ [32, 33, 2, 3, 34, 35, 36, 37, 38, 39, 40, 64, 65, 78, 79, 80, 81] (by decide +kernel) (by decide +kernel)
set_option maxRecDepth 20000 in
theorem gX8_init_X2_init : GoodIn wsX8_init (wsX2_init) := ggX8_init_X2_init
set_option maxRecDepth 20000 in
theorem ggX8_init_X1_init : GoodIn wsX8_init wsX1_init := goodIn_r _ [42, 43, 2, 3, 44, 45, 66, 67, 68, 69, 70, 71, 72] (by decide +kernel) (by decide +kernel)
set_option maxRecDepth 20000 in
theorem gX8_init_X1_init_n27 : GoodIn wsX8_init (wsX1_init) := ggX8_init_X1_init
set_option maxRecDepth 20000 in
theorem ggX8_init_X4_init : GoodIn wsX8_init wsX4_init := goodIn_r _ [47, 48, 2, 3, 49, 50, 51, 52, 73, 74, 75, 76, 77] (by decide +kernel) (by decide +kernel)
set_option maxRecDepth 20000 in
theorem gX8_init_X4_init_n34 : GoodIn wsX8_init (wsX4_init) := ggX8_init_X4_init
theorem dX8_init_0 : decode cX8_init 0 = .ok (.aload_n 0, 1) := by decide +kernel
theorem dX8_init_1 : decode cX8_init 1 = .ok (.invokespecial 3, 3) := by decide +kernel
theorem dX8_init_4 : decode cX8_init 4 = .ok (.aload_n 0, 1) := by decide +kernel
theorem dX8_init_5 : decode cX8_init 5 = .ok (.new 9, 3) := by decide +kernel
theorem dX8_init_8 : decode cX8_init 8 = .ok (.dup, 1) := by decide +kernel
theorem dX8_init_9 : decode cX8_init 9 = .ok (.invokespecial 11, 3) := by decide +kernel
theorem dX8_init_12 : decode cX8_init 12 = .ok (.putfield 12, 3) := by decide +kernel
theorem dX8_init_15 : decode cX8_init 15 = .ok (.aload_n 0, 1) := by decide +kernel
theorem dX8_init_16 : decode cX8_init 16 = .ok (.new 18, 3) := by decide +kernel
theorem dX8_init_19 : decode cX8_init 19 = .ok (.dup, 1) := by decide +kernel
theorem dX8_init_20 : decode cX8_init 20 = .ok (.invokespecial 20, 3) := by decide +kernel
theorem dX8_init_23 : decode cX8_init 23 = .ok (.putfield 21, 3) := by decide +kernel
theorem dX8_init_26 : decode cX8_init 26 = .ok (.aload_n 0, 1) := by decide +kernel
theorem dX8_init_27 : decode cX8_init 27 = .ok (.new 25, 3) := by decide +kernel
theorem dX8_init_30 : decode cX8_init 30 = .ok (.dup, 1) := by decide +kernel
theorem dX8_init_31 : decode cX8_init 31 = .ok (.invokespecial 27, 3) := by decide +kernel
theorem dX8_init_34 : decode cX8_init 34 = .ok (.putfield 28, 3) := by decide +kernel
theorem dX8_init_37 : decode cX8_init 37 = .ok (.aload_n 0, 1) := by decide +kernel
theorem dX8_init_38 : decode cX8_init 38 = .ok (.new 32, 3) := by decide +kernel
theorem dX8_init_41 : decode cX8_init 41 = .ok (.dup, 1) := by decide +kernel
theorem dX8_init_42 : decode cX8_init 42 = .ok (.invokespecial 34, 3) := by decide +kernel
theorem dX8_init_45 : decode cX8_init 45 = .ok (.putfield 35, 3) := by decide +kernel
theorem dX8_init_48 : decode cX8_init 48 = .ok (.return_, 1) := by decide +kernel
set_option maxRecDepth 20000 in
theorem ggX8_becomeLike_X6_becomeLike : GoodIn wsX8_becomeLike wsX6_becomeLike := goodIn_r _ [15, 16, 17, 18, 19, 20, 70] (by decide +kernel) (by decide +kernel)
set_option maxRecDepth 20000 in
theorem gX8_becomeLike_X6_becomeLike : GoodIn wsX8_becomeLike (wsV RX8 39 RX6 yX6_becomeLike wsX6_becomeLike) := goodIn_app (goodIn_of _ (by decide +kernel)) ggX8_becomeLike_X6_becomeLike
set_option maxRecDepth 20000 in
theorem ggX8_becomeLike_X2_becomeLike : GoodIn wsX8_becomeLike wsX2_becomeLike := goodIn_r _ [25, 26, 27, 28, 29, 30, 31, 32, 33, 34, 35, 36, 71, 72, 73, 74, 75, 76] (by decide +kernel) (by decide +kernel)
set_option maxRecDepth 20000 in
theorem gX8_becomeLike_X2_becomeLike : GoodIn wsX8_becomeLike (wsV RX8 43 RX2 yX2_becomeLike wsX2_becomeLike) := goodIn_app (goodIn_of _ (by decide +kernel)) ggX8_becomeLike_X2_becomeLike
set_option maxRecDepth 20000 in
theorem ggX8_becomeLike_X1_becomeLike : GoodIn wsX8_becomeLike wsX1_becomeLike := goodIn_r _ [41, 42, 43, 44, 45, 46, 47, 48, 77, 78, 79, 80, 81, 82, 83] (by decide +kernel) (by decide +kernel)
set_option maxRecDepth 20000 in
theorem gX8_becomeLike_X1_becomeLike : GoodIn wsX8_becomeLike (wsV RX8 46 RX1 yX1_becomeLike wsX1_becomeLike) := goodIn_app (goodIn_of _ (by decide +kernel)) ggX8_becomeLike_X1_becomeLike
set_option maxRecDepth 20000 in
theorem ggX8_becomeLike_X4_becomeLike : GoodIn wsX8_becomeLike wsX4_becomeLike := goodIn_r _ [53, 54, 55, 18, 19, 20, 56, 57, 58, 59, 84, 85, 86, 87, 88] (by decide +kernel) (by decide +kernel)
set_option maxRecDepth 20000 in
theorem gX8_becomeLike_X4_becomeLike : GoodIn wsX8_becomeLike (wsV RX8 49 RX4 yX4_becomeLike wsX4_becomeLike) := goodIn_app (goodIn_of _ (by decide +kernel)) ggX8_becomeLike_X4_becomeLike
theorem dX8_becomeLike_0 : decode cX8_becomeLike 0 = .ok (.aload_n 0, 1) := by decide +kernel
theorem dX8_becomeLike_1 : decode cX8_becomeLike 1 = .ok (.getfield 12, 3) := by decide +kernel
theorem dX8_becomeLike_4 : decode cX8_becomeLike 4 = .ok (.aload_n 1, 1) := by decide +kernel
theorem dX8_becomeLike_5 : decode cX8_becomeLike 5 = .ok (.getfield 12, 3) := by decide +kernel
theorem dX8_becomeLike_8 : decode cX8_becomeLike 8 = .ok (.invokevirtual 39, 3) := by decide +kernel
theorem dX8_becomeLike_11 : decode cX8_becomeLike 11 = .ok (.aload_n 0, 1) := by decide +kernel
theorem dX8_becomeLike_12 : decode cX8_becomeLike 12 = .ok (.getfield 21, 3) := by decide +kernel
theorem dX8_becomeLike_15 : decode cX8_becomeLike 15 = .ok (.aload_n 1, 1) := by decide +kernel
theorem dX8_becomeLike_16 : decode cX8_becomeLike 16 = .ok (.getfield 21, 3) := by decide +kernel
theorem dX8_becomeLike_19 : decode cX8_becomeLike 19 = .ok (.invokevirtual 43, 3) := by decide +kernel
theorem dX8_becomeLike_22 : decode cX8_becomeLike 22 = .ok (.aload_n 0, 1) := by decide +kernel
theorem dX8_becomeLike_23 : decode cX8_becomeLike 23 = .ok (.getfield 28, 3) := by decide +kernel
theorem dX8_becomeLike_26 : decode cX8_becomeLike 26 = .ok (.aload_n 1, 1) := by decide +kernel
theorem dX8_becomeLike_27 : decode cX8_becomeLike 27 = .ok (.getfield 28, 3) := by decide +kernel
theorem dX8_becomeLike_30 : decode cX8_becomeLike 30 = .ok (.invokevirtual 46, 3) := by decide +kernel
theorem dX8_becomeLike_33 : decode cX8_becomeLike 33 = .ok (.aload_n 0, 1) := by decide +kernel
theorem dX8_becomeLike_34 : decode cX8_becomeLike 34 = .ok (.getfield 35, 3) := by decide +kernel
theorem dX8_becomeLike_37 : decode cX8_becomeLike 37 = .ok (.aload_n 1, 1) := by decide +kernel
theorem dX8_becomeLike_38 : decode cX8_becomeLike 38 = .ok (.getfield 35, 3) := by decide +kernel
theorem dX8_becomeLike_41 : decode cX8_becomeLike 41 = .ok (.invokevirtual 49, 3) := by decide +kernel
theorem dX8_becomeLike_44 : decode cX8_becomeLike 44 = .ok (.aload_n 0, 1) := by decide +kernel
theorem dX8_becomeLike_45 : decode cX8_becomeLike 45 = .ok (.aload_n 1, 1) := by decide +kernel
theorem dX8_becomeLike_46 : decode cX8_becomeLike 46 = .ok (.getfield 52, 3) := by decide +kernel
theorem dX8_becomeLike_49 : decode cX8_becomeLike 49 = .ok (.putfield 52, 3) := by decide +kernel
theorem dX8_becomeLike_52 : decode cX8_becomeLike 52 = .ok (.aload_n 0, 1) := by decide +kernel
theorem dX8_becomeLike_53 : decode cX8_becomeLike 53 = .ok (.aload_n 1, 1) := by decide +kernel
theorem dX8_becomeLike_54 : decode cX8_becomeLike 54 = .ok (.getfield 56, 3) := by decide +kernel
theorem dX8_becomeLike_57 : decode cX8_becomeLike 57 = .ok (.putfield 56, 3) := by decide +kernel
theorem dX8_becomeLike_60 : decode cX8_becomeLike 60 = .ok (.aload_n 0, 1) := by decide +kernel
theorem dX8_becomeLike_61 : decode cX8_becomeLike 61 = .ok (.aload_n 1, 1) := by decide +kernel
theorem dX8_becomeLike_62 : decode cX8_becomeLike 62 = .ok (.getfield 60, 3) := by decide +kernel
theorem dX8_becomeLike_65 : decode cX8_becomeLike 65 = .ok (.putfield 60, 3) := by decide +kernel
theorem dX8_becomeLike_68 : decode cX8_becomeLike 68 = .ok (.aload_n 0, 1) := by decide +kernel
theorem dX8_becomeLike_69 : decode cX8_becomeLike 69 = .ok (.aload_n 1, 1) := by decide +kernel
theorem dX8_becomeLike_70 : decode cX8_becomeLike 70 = .ok (.getfield 63, 3) := by decide +kernel
theorem dX8_becomeLike_73 : decode cX8_becomeLike 73 = .ok (.putfield 63, 3) := by decide +kernel
theorem dX8_becomeLike_76 : decode cX8_becomeLike 76 = .ok (.aload_n 0, 1) := by decide +kernel
theorem dX8_becomeLike_77 : decode cX8_becomeLike 77 = .ok (.aload_n 1, 1) := by decide +kernel
theorem dX8_becomeLike_78 : decode cX8_becomeLike 78 = .ok (.getfield 66, 3) := by decide +kernel
theorem dX8_becomeLike_81 : decode cX8_becomeLike 81 = .ok (.putfield 66, 3) := by decide +kernel
theorem dX8_becomeLike_84 : decode cX8_becomeLike 84 = .ok (.aload_n 0, 1) := by decide +kernel
theorem dX8_becomeLike_85 : decode cX8_becomeLike 85 = .ok (.aload_n 1, 1) := by decide +kernel
theorem dX8_becomeLike_86 : decode cX8_becomeLike 86 = .ok (.getfield 69, 3) := by decide +kernel
theorem dX8_becomeLike_89 : decode cX8_becomeLike 89 = .ok (.putfield 69, 3) := by decide +kernel
theorem dX8_becomeLike_92 : decode cX8_becomeLike 92 = .ok (.return_, 1) := by decide +kernel
set_option maxRecDepth 20000 in
theorem ggX8_concentration_X1_concentration : GoodIn wsX8_concentration wsX1_concentration := goodIn_r _ [7, 8, 9, 10, 11, 12, 13, 14, 15, 16, 17, 18, 19, 20, 31, 32, 33, 34, 35, 36, 37, 38] (by decide +kernel) (by decide +kernel)
set_option maxRecDepth 20000 in
theorem gX8_concentration_X1_concentration : GoodIn wsX8_concentration (wsV RX8 72 RX1 yX1_concentration wsX1_concentration) := goodIn_app (goodIn_of _ (by decide +kernel)) ggX8_concentration_X1_concentration
theorem dX8_concentration_0 : decode cX8_concentration 0 = .ok (.aload_n 0, 1) := by decide +kernel
theorem dX8_concentration_1 : decode cX8_concentration 1 = .ok (.getfield 28, 3) := by decide +kernel
theorem dX8_concentration_4 : decode cX8_concentration 4 = .ok (.aload_n 0, 1) := by decide +kernel
theorem dX8_concentration_5 : decode cX8_concentration 5 = .ok (.getfield 12, 3) := by decide +kernel
theorem dX8_concentration_8 : decode cX8_concentration 8 = .ok (.invokevirtual 72, 3) := by decide +kernel
theorem dX8_concentration_11 : decode cX8_concentration 11 = .ok (.lreturn, 1) := by decide +kernel
set_option maxRecDepth 20000 in
theorem ggX8_isSafe_X8_concentration : GoodIn wsX8_isSafe wsX8_concentration := goodIn_r _ [6, 7, 1, 8, 9, 10, 11, 12, 13, 14, 15, 16, 17, 18, 19, 20, 21, 22, 23, 24, 25, 27, 28, 29, 30, 31, 32, 33, 34, 35, 36, 37, 38, 39, 40, 41, 42, 43, 44] (by decide +kernel) (by decide +kernel)
set_option maxRecDepth 20000 in
theorem gX8_isSafe_X8_concentration : GoodIn wsX8_isSafe (wsV RX8 76 RX8 yX8_concentration wsX8_concentration) := goodIn_app (goodIn_of _ (by decide +kernel)) ggX8_isSafe_X8_concentration
set_option maxRecDepth 20000 in
theorem ggX8_isSafe_X6_value : GoodIn wsX8_isSafe wsX6_value := goodIn_r _ [19, 20, 21, 22, 23, 44] (by decide +kernel) (by decide +kernel)
set_option maxRecDepth 20000 in
theorem gX8_isSafe_X6_value : GoodIn wsX8_isSafe (wsV RX8 79 RX6 yX6_value wsX6_value) := goodIn_app (goodIn_of _ (by decide +kernel)) ggX8_isSafe_X6_value
theorem dX8_isSafe_0 : decode cX8_isSafe 0 = .ok (.aload_n 0, 1) := by decide +kernel
theorem dX8_isSafe_1 : decode cX8_isSafe 1 = .ok (.invokevirtual 76, 3) := by decide +kernel
theorem dX8_isSafe_4 : decode cX8_isSafe 4 = .ok (.aload_n 0, 1) := by decide +kernel
theorem dX8_isSafe_5 : decode cX8_isSafe 5 = .ok (.getfield 12, 3) := by decide +kernel
theorem dX8_isSafe_8 : decode cX8_isSafe 8 = .ok (.bipush 8, 2) := by decide +kernel
theorem dX8_isSafe_10 : decode cX8_isSafe 10 = .ok (.invokevirtual 79, 3) := by decide +kernel
theorem dX8_isSafe_13 : decode cX8_isSafe 13 = .ok (.i2l, 1) := by decide +kernel
theorem dX8_isSafe_14 : decode cX8_isSafe 14 = .ok (.lcmp, 1) := by decide +kernel
theorem dX8_isSafe_15 : decode cX8_isSafe 15 = .ok (.ifCond .ge 7, 3) := by decide +kernel
theorem dX8_isSafe_18 : decode cX8_isSafe 18 = .ok (.iconst 1, 1) := by decide +kernel
theorem dX8_isSafe_19 : decode cX8_isSafe 19 = .ok (.goto 4, 3) := by decide +kernel
theorem dX8_isSafe_22 : decode cX8_isSafe 22 = .ok (.iconst 0, 1) := by decide +kernel
theorem dX8_isSafe_23 : decode cX8_isSafe 23 = .ok (.ireturn, 1) := by decide +kernel
set_option maxRecDepth 20000 in
theorem ggX8_letPass_X8_letMinutePass : GoodIn wsX8_letPass wsX8_letMinutePass := goodIn_r _ [5, 6, 7, 8, 9, 10, 11, 12, 13, 14, 15, 16, 17, 18, 19, 20, 21, 22, 23, 24, 25, 26, 27, 28, 29, 30, 31, 32, 33, 34, 35, 36, 37, 38, 39, 40, 41, 42, 43, 44, 45, 46, 47, 48, 49, 50, 51, 52, 53, 54, 55, 56, 57, 58, 59, 60, 61, 62, 63, 64, 65, 66, 67, 68, 69, 70, 71, 72, 73, 74, 75, 76, 77, 78, 79, 80, 81, 82, 83, 84, 85, 86, 87, 88, 89, 90, 91, 92, 93, 94, 95, 96, 97, 98, 99, 100, 101, 102, 103, 104, 105, 106, 107, 108, 109, 110, 111, 112, 113, 114, 115, 116, 117, 118, 119, 120, 121, 122, 123, 124, 125, 126, 127, 128, 129, 130, 131, 132, 133, 134, 135, 136, 137, 138, 139, 140, 141, 142, 143, 144, 145, 146, 147, 148, 149, 150] (by decide +kernel) (by decide +kernel)
set_option maxRecDepth 20000 in
theorem gX8_letPass_X8_letMinutePass : GoodIn wsX8_letPass (wsV RX8 83 RX8 yX8_letMinutePass wsX8_letMinutePass) := goodIn_app (goodIn_of _ (by decide +kernel)) ggX8_letPass_X8_letMinutePass
theorem dX8_letPass_0 : decode cX8_letPass 0 = .ok (.iconst 0, 1) := by decide +kernel
theorem dX8_letPass_1 : decode cX8_letPass 1 = .ok (.istore_n 2, 1) := by decide +kernel
theorem dX8_letPass_2 : decode cX8_letPass 2 = .ok (.iload_n 2, 1) := by decide +kernel
theorem dX8_letPass_3 : decode cX8_letPass 3 = .ok (.iload_n 1, 1) := by decide +kernel
theorem dX8_letPass_4 : decode cX8_letPass 4 = .ok (.if_icmp .ge 13, 3) := by decide +kernel
theorem dX8_letPass_7 : decode cX8_letPass 7 = .ok (.aload_n 0, 1) := by decide +kernel
theorem dX8_letPass_8 : decode cX8_letPass 8 = .ok (.invokevirtual 83, 3) := by decide +kernel
theorem dX8_letPass_11 : decode cX8_letPass 11 = .ok (.iinc 2 1, 3) := by decide +kernel
theorem dX8_letPass_14 : decode cX8_letPass 14 = .ok (.goto (-12), 3) := by decide +kernel
theorem dX8_letPass_17 : decode cX8_letPass 17 = .ok (.return_, 1) := by decide +kernel
set_option maxRecDepth 20000 in
theorem ggX8_letMinutePass_X6_value : GoodIn wsX8_letMinutePass wsX6_value := goodIn_r _ [12, 13, 14, 15, 16, 134] (by decide +kernel) (by decide +kernel)
set_option maxRecDepth 20000 in
theorem gX8_letMinutePass_X6_value : GoodIn wsX8_letMinutePass (wsV RX8 79 RX6 yX6_value wsX6_value) := goodIn_app (goodIn_of _ (by decide +kernel)) ggX8_letMinutePass_X6_value
set_option maxRecDepth 20000 in
theorem ggX8_letMinutePass_X2_letGoOff : GoodIn wsX8_letMinutePass wsX2_letGoOff := goodIn_r _ [21, 22, 23, 24, 25, 26, 27, 28, 29, 30, 31, 32, 33, 34, 35, 36, 37, 38, 39, 15, 40, 41, 42, 43, 44, 45, 46, 47, 48, 135, 136, 137, 138, 139, 140] (by decide +kernel) (by decide +kernel)
set_option maxRecDepth 20000 in
theorem gX8_letMinutePass_X2_letGoOff : GoodIn wsX8_letMinutePass (wsV RX8 89 RX2 yX2_letGoOff wsX2_letGoOff) := goodIn_app (goodIn_of _ (by decide +kernel)) ggX8_letMinutePass_X2_letGoOff
set_option maxRecDepth 20000 in
theorem ggX8_letMinutePass_X4_outsideNow : GoodIn wsX8_letMinutePass wsX4_outsideNow := goodIn_r _ [53, 54, 55, 56, 57, 58, 52, 59, 60, 14, 15, 16, 141, 142, 143, 144, 145] (by decide +kernel) (by decide +kernel)
set_option maxRecDepth 20000 in
theorem gX8_letMinutePass_X4_outsideNow : GoodIn wsX8_letMinutePass (wsV RX8 93 RX4 yX4_outsideNow wsX4_outsideNow) := goodIn_app (goodIn_of _ (by decide +kernel)) ggX8_letMinutePass_X4_outsideNow
set_option maxRecDepth 20000 in
theorem ggX8_letMinutePass_X1_letMinutePass : GoodIn wsX8_letMinutePass wsX1_letMinutePass := goodIn_r _ [65, 66, 67, 68, 69, 70, 71, 64, 72, 73, 74, 75, 76, 33, 77, 78, 47, 48, 79, 9, 10, 11, 12, 13, 14, 15, 16, 39, 40, 80, 81, 82, 83, 84, 85, 86, 87, 88, 89, 90, 91, 92, 93, 94, 95, 96, 97, 98, 99, 100, 101, 102, 103, 104, 105, 106, 107, 127, 128, 129, 130, 131, 132, 133, 134] (by decide +kernel) (by decide +kernel)
set_option maxRecDepth 20000 in
theorem gX8_letMinutePass_X1_letMinutePass : GoodIn wsX8_letMinutePass (wsV RX8 97 RX1 yX1_letMinutePass wsX1_letMinutePass) := goodIn_app (goodIn_of _ (by decide +kernel)) ggX8_letMinutePass_X1_letMinutePass
set_option maxRecDepth 20000 in
theorem ggX8_letMinutePass_X4_letMinutePass : GoodIn wsX8_letMinutePass wsX4_letMinutePass := goodIn_r _ [111, 112, 113, 114, 115, 52, 116, 141, 142, 143, 144, 145] (by decide +kernel) (by decide +kernel)
set_option maxRecDepth 20000 in
theorem gX8_letMinutePass_X4_letMinutePass : GoodIn wsX8_letMinutePass (wsV RX8 100 RX4 yX4_letMinutePass wsX4_letMinutePass) := goodIn_app (goodIn_of _ (by decide +kernel)) ggX8_letMinutePass_X4_letMinutePass
theorem dX8_letMinutePass_0 : decode cX8_letMinutePass 0 = .ok (.aload_n 0, 1) := by decide +kernel
theorem dX8_letMinutePass_1 : decode cX8_letMinutePass 1 = .ok (.getfield 21, 3) := by decide +kernel
theorem dX8_letMinutePass_4 : decode cX8_letMinutePass 4 = .ok (.aload_n 0, 1) := by decide +kernel
theorem dX8_letMinutePass_5 : decode cX8_letMinutePass 5 = .ok (.getfield 28, 3) := by decide +kernel
theorem dX8_letMinutePass_8 : decode cX8_letMinutePass 8 = .ok (.getfield 86, 3) := by decide +kernel
theorem dX8_letMinutePass_11 : decode cX8_letMinutePass 11 = .ok (.aload_n 0, 1) := by decide +kernel
theorem dX8_letMinutePass_12 : decode cX8_letMinutePass 12 = .ok (.getfield 12, 3) := by decide +kernel
theorem dX8_letMinutePass_15 : decode cX8_letMinutePass 15 = .ok (.iconst 0, 1) := by decide +kernel
theorem dX8_letMinutePass_16 : decode cX8_letMinutePass 16 = .ok (.invokevirtual 79, 3) := by decide +kernel
theorem dX8_letMinutePass_19 : decode cX8_letMinutePass 19 = .ok (.invokevirtual 89, 3) := by decide +kernel
theorem dX8_letMinutePass_22 : decode cX8_letMinutePass 22 = .ok (.istore_n 1, 1) := by decide +kernel
theorem dX8_letMinutePass_23 : decode cX8_letMinutePass 23 = .ok (.aload_n 0, 1) := by decide +kernel
theorem dX8_letMinutePass_24 : decode cX8_letMinutePass 24 = .ok (.dup, 1) := by decide +kernel
theorem dX8_letMinutePass_25 : decode cX8_letMinutePass 25 = .ok (.getfield 63, 3) := by decide +kernel
theorem dX8_letMinutePass_28 : decode cX8_letMinutePass 28 = .ok (.iload_n 1, 1) := by decide +kernel
theorem dX8_letMinutePass_29 : decode cX8_letMinutePass 29 = .ok (.i2l, 1) := by decide +kernel
theorem dX8_letMinutePass_30 : decode cX8_letMinutePass 30 = .ok (.ladd, 1) := by decide +kernel
theorem dX8_letMinutePass_31 : decode cX8_letMinutePass 31 = .ok (.putfield 63, 3) := by decide +kernel
theorem dX8_letMinutePass_34 : decode cX8_letMinutePass 34 = .ok (.aload_n 0, 1) := by decide +kernel
theorem dX8_letMinutePass_35 : decode cX8_letMinutePass 35 = .ok (.getfield 28, 3) := by decide +kernel
theorem dX8_letMinutePass_38 : decode cX8_letMinutePass 38 = .ok (.iload_n 1, 1) := by decide +kernel
theorem dX8_letMinutePass_39 : decode cX8_letMinutePass 39 = .ok (.aload_n 0, 1) := by decide +kernel
theorem dX8_letMinutePass_40 : decode cX8_letMinutePass 40 = .ok (.getfield 35, 3) := by decide +kernel
theorem dX8_letMinutePass_43 : decode cX8_letMinutePass 43 = .ok (.invokevirtual 93, 3) := by decide +kernel
theorem dX8_letMinutePass_46 : decode cX8_letMinutePass 46 = .ok (.aload_n 0, 1) := by decide +kernel
theorem dX8_letMinutePass_47 : decode cX8_letMinutePass 47 = .ok (.getfield 12, 3) := by decide +kernel
theorem dX8_letMinutePass_50 : decode cX8_letMinutePass 50 = .ok (.invokevirtual 97, 3) := by decide +kernel
theorem dX8_letMinutePass_53 : decode cX8_letMinutePass 53 = .ok (.aload_n 0, 1) := by decide +kernel
theorem dX8_letMinutePass_54 : decode cX8_letMinutePass 54 = .ok (.getfield 35, 3) := by decide +kernel
theorem dX8_letMinutePass_57 : decode cX8_letMinutePass 57 = .ok (.invokevirtual 100, 3) := by decide +kernel
theorem dX8_letMinutePass_60 : decode cX8_letMinutePass 60 = .ok (.aload_n 0, 1) := by decide +kernel
theorem dX8_letMinutePass_61 : decode cX8_letMinutePass 61 = .ok (.dup, 1) := by decide +kernel
theorem dX8_letMinutePass_62 : decode cX8_letMinutePass 62 = .ok (.getfield 52, 3) := by decide +kernel
theorem dX8_letMinutePass_65 : decode cX8_letMinutePass 65 = .ok (.iconst 1, 1) := by decide +kernel
theorem dX8_letMinutePass_66 : decode cX8_letMinutePass 66 = .ok (.iadd, 1) := by decide +kernel
theorem dX8_letMinutePass_67 : decode cX8_letMinutePass 67 = .ok (.putfield 52, 3) := by decide +kernel
theorem dX8_letMinutePass_70 : decode cX8_letMinutePass 70 = .ok (.return_, 1) := by decide +kernel
set_option maxRecDepth 20000 in
theorem ggX8_driveToEnd_X4_isOnTheWay : GoodIn wsX8_driveToEnd wsX4_isOnTheWay := goodIn_r _ [7, 8, 148, 149, 150, 151, 152] (by decide +kernel) (by decide +kernel)
set_option maxRecDepth 20000 in
theorem gX8_driveToEnd_X4_isOnTheWay : GoodIn wsX8_driveToEnd (wsV RX8 101 RX4 yX4_isOnTheWay wsX4_isOnTheWay) := goodIn_app (goodIn_of _ (by decide +kernel)) ggX8_driveToEnd_X4_isOnTheWay
set_option maxRecDepth 20000 in
theorem ggX8_driveToEnd_X8_letPass : GoodIn wsX8_driveToEnd wsX8_letPass := goodIn_r _ [13, 14, 15, 16, 12, 17, 18, 19, 20, 21, 22, 1, 23, 24, 25, 26, 27, 28, 29, 30, 31, 32, 33, 34, 35, 36, 37, 38, 39, 40, 41, 42, 43, 44, 45, 46, 47, 48, 49, 50, 51, 52, 53, 54, 55, 56, 57, 58, 59, 60, 61, 62, 63, 64, 65, 66, 67, 6, 68, 69, 70, 71, 72, 73, 74, 75, 76, 77, 78, 79, 80, 81, 82, 83, 84, 85, 86, 87, 88, 89, 90, 91, 92, 93, 94, 95, 96, 97, 98, 99, 100, 101, 102, 103, 104, 105, 106, 107, 108, 109, 110, 111, 112, 113, 114, 115, 116, 117, 118, 119, 120, 121, 122, 123, 124, 125, 126, 8, 127, 4, 5, 7, 138, 139, 140, 141, 142, 143, 144, 145, 146, 147, 153, 154, 155, 156, 157, 158, 159, 160, 161, 162, 163, 164, 165, 166, 148, 149, 150, 151, 152] (by decide +kernel) (by decide +kernel)
set_option maxRecDepth 20000 in
theorem gX8_driveToEnd_X8_letPass : GoodIn wsX8_driveToEnd (wsV RX8 108 RX8 yX8_letPass wsX8_letPass) := goodIn_app (goodIn_of _ (by decide +kernel)) ggX8_driveToEnd_X8_letPass
set_option maxRecDepth 20000 in
theorem ggX8_driveToEnd_X4_hasNextLeg : GoodIn wsX8_driveToEnd wsX4_hasNextLeg := goodIn_r _ [131, 69, 71, 72, 73, 6, 74, 75, 30, 31, 32, 148, 149, 150, 151, 152] (by decide +kernel) (by decide +kernel)
set_option maxRecDepth 20000 in
theorem gX8_driveToEnd_X4_hasNextLeg : GoodIn wsX8_driveToEnd (wsV RX8 112 RX4 yX4_hasNextLeg wsX4_hasNextLeg) := goodIn_app (goodIn_of _ (by decide +kernel)) ggX8_driveToEnd_X4_hasNextLeg
set_option maxRecDepth 20000 in
theorem ggX8_driveToEnd_X4_beginNextLeg : GoodIn wsX8_driveToEnd wsX4_beginNextLeg := goodIn_r _ [135, 69, 136, 8, 137, 129, 130, 6, 131, 71, 72, 73, 74, 75, 30, 31, 32, 148, 149, 150, 151, 152] (by decide +kernel) (by decide +kernel)
set_option maxRecDepth 20000 in
theorem gX8_driveToEnd_X4_beginNextLeg : GoodIn wsX8_driveToEnd (wsV RX8 115 RX4 yX4_beginNextLeg wsX4_beginNextLeg) := goodIn_app (goodIn_of _ (by decide +kernel)) ggX8_driveToEnd_X4_beginNextLeg
theorem dX8_driveToEnd_0 : decode cX8_driveToEnd 0 = .ok (.aload_n 0, 1) := by decide +kernel
theorem dX8_driveToEnd_1 : decode cX8_driveToEnd 1 = .ok (.getfield 35, 3) := by decide +kernel
theorem dX8_driveToEnd_4 : decode cX8_driveToEnd 4 = .ok (.invokevirtual 101, 3) := by decide +kernel
theorem dX8_driveToEnd_7 : decode cX8_driveToEnd 7 = .ok (.istore_n 2, 1) := by decide +kernel
theorem dX8_driveToEnd_8 : decode cX8_driveToEnd 8 = .ok (.aload_n 0, 1) := by decide +kernel
theorem dX8_driveToEnd_9 : decode cX8_driveToEnd 9 = .ok (.aload_n 0, 1) := by decide +kernel
theorem dX8_driveToEnd_10 : decode cX8_driveToEnd 10 = .ok (.getfield 35, 3) := by decide +kernel
theorem dX8_driveToEnd_13 : decode cX8_driveToEnd 13 = .ok (.getfield 105, 3) := by decide +kernel
theorem dX8_driveToEnd_16 : decode cX8_driveToEnd 16 = .ok (.invokevirtual 108, 3) := by decide +kernel
theorem dX8_driveToEnd_19 : decode cX8_driveToEnd 19 = .ok (.iconst 0, 1) := by decide +kernel
theorem dX8_driveToEnd_20 : decode cX8_driveToEnd 20 = .ok (.istore_n 3, 1) := by decide +kernel
theorem dX8_driveToEnd_21 : decode cX8_driveToEnd 21 = .ok (.iload_n 3, 1) := by decide +kernel
theorem dX8_driveToEnd_22 : decode cX8_driveToEnd 22 = .ok (.bipush 12, 2) := by decide +kernel
theorem dX8_driveToEnd_24 : decode cX8_driveToEnd 24 = .ok (.if_icmp .ge 48, 3) := by decide +kernel
theorem dX8_driveToEnd_27 : decode cX8_driveToEnd 27 = .ok (.aload_n 0, 1) := by decide +kernel
theorem dX8_driveToEnd_28 : decode cX8_driveToEnd 28 = .ok (.getfield 35, 3) := by decide +kernel
theorem dX8_driveToEnd_31 : decode cX8_driveToEnd 31 = .ok (.invokevirtual 112, 3) := by decide +kernel
theorem dX8_driveToEnd_34 : decode cX8_driveToEnd 34 = .ok (.ifCond .eq 38, 3) := by decide +kernel
theorem dX8_driveToEnd_37 : decode cX8_driveToEnd 37 = .ok (.iload_n 2, 1) := by decide +kernel
theorem dX8_driveToEnd_38 : decode cX8_driveToEnd 38 = .ok (.ifCond .eq 8, 3) := by decide +kernel
theorem dX8_driveToEnd_41 : decode cX8_driveToEnd 41 = .ok (.aload_n 0, 1) := by decide +kernel
theorem dX8_driveToEnd_42 : decode cX8_driveToEnd 42 = .ok (.iload_n 1, 1) := by decide +kernel
theorem dX8_driveToEnd_43 : decode cX8_driveToEnd 43 = .ok (.invokevirtual 108, 3) := by decide +kernel
theorem dX8_driveToEnd_46 : decode cX8_driveToEnd 46 = .ok (.aload_n 0, 1) := by decide +kernel
theorem dX8_driveToEnd_47 : decode cX8_driveToEnd 47 = .ok (.getfield 35, 3) := by decide +kernel
theorem dX8_driveToEnd_50 : decode cX8_driveToEnd 50 = .ok (.invokevirtual 115, 3) := by decide +kernel
theorem dX8_driveToEnd_53 : decode cX8_driveToEnd 53 = .ok (.aload_n 0, 1) := by decide +kernel
theorem dX8_driveToEnd_54 : decode cX8_driveToEnd 54 = .ok (.aload_n 0, 1) := by decide +kernel
theorem dX8_driveToEnd_55 : decode cX8_driveToEnd 55 = .ok (.getfield 35, 3) := by decide +kernel
theorem dX8_driveToEnd_58 : decode cX8_driveToEnd 58 = .ok (.getfield 105, 3) := by decide +kernel
theorem dX8_driveToEnd_61 : decode cX8_driveToEnd 61 = .ok (.invokevirtual 108, 3) := by decide +kernel
theorem dX8_driveToEnd_64 : decode cX8_driveToEnd 64 = .ok (.iconst 1, 1) := by decide +kernel
theorem dX8_driveToEnd_65 : decode cX8_driveToEnd 65 = .ok (.istore_n 2, 1) := by decide +kernel
theorem dX8_driveToEnd_66 : decode cX8_driveToEnd 66 = .ok (.iinc 3 1, 3) := by decide +kernel
theorem dX8_driveToEnd_69 : decode cX8_driveToEnd 69 = .ok (.goto (-48), 3) := by decide +kernel
theorem dX8_driveToEnd_72 : decode cX8_driveToEnd 72 = .ok (.return_, 1) := by decide +kernel
