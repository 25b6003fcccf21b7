set_option maxRecDepth 20000 in
theorem ggX9_init_X8_init : GoodIn wsX9_init wsX8_init := goodIn_r _ [23, 24, 2, 3, 25, 26, 27, 28, 29, 30, 31, 32, 33, 34, 35, 36, 37, 38, 39, 40, 41, 42, 43, 44, 45, 46, 47, 48, 49, 50, 51, 52, 53, 54, 55, 56, 57, 58, 59, 60, 61, 62, 63, 64, 65, 66, 67, 68, 69, 70, 71, 72, 73, 115, 88, 89, 90, 91, 92, 93, 94, 95, 96, 97, 116, 117, 118, 119, 120, 121, 122, 123, 124, 125, 126, 127, 128, 129, 130, 131, 132, 133] (by decide +kernel) (by decide +kernel)
set_option maxRecDepth 20000 in
theorem gX9_init_X8_init_n9 : GoodIn wsX9_init (wsX8_init) := ggX9_init_X8_init
set_option maxRecDepth 20000 in
theorem ggX9_init_X7_init : GoodIn wsX9_init wsX7_init := goodIn_r _ [75, 76, 2, 3, 77, 5, 6, 78, 22, 23, 24, 25, 26, 27, 28, 29, 30, 31, 32, 33, 34, 35, 36, 37, 38, 39, 40, 41, 42, 43, 44, 45, 46, 47, 48, 49, 50, 51, 52, 53, 54, 55, 56, 57, 58, 59, 60, 61, 62, 63, 64, 65, 66, 67, 68, 69, 70, 71, 72, 73, 88, 89, 90, 91, 92, 93, 94, 95, 96, 97, 104, 105, 115, 116, 117, 118, 119, 120, 121, 122, 123, 124, 125, 126, 127, 128, 129, 130, 131, 132, 133] (by decide +kernel) (by decide +kernel)
set_option maxRecDepth 20000 in
theorem gX9_init_X7_init_n21 : GoodIn wsX9_init (wsX7_init) := ggX9_init_X7_init
set_option maxRecDepth 20000 in
theorem ggX9_init_X3_init : GoodIn wsX9_init wsX3_init := goodIn_r _ [80, 81, 2, 3, 70, 82, 106, 107] (by decide +kernel) (by decide +kernel)
set_option maxRecDepth 20000 in
theorem gX9_init_X3_init_n31 : GoodIn wsX9_init (wsX3_init) := ggX9_init_X3_init
set_option maxRecDepth 20000 in
theorem ggX9_init_X5_init : GoodIn wsX9_init wsX5_init := goodIn_r _ [84, 85, 2, 3, 70, 86, 87, 108, 109, 110, 111, 112, 113, 114] (by decide +kernel) (by decide +kernel)
set_option maxRecDepth 20000 in
theorem gX9_init_X5_init_n38 : GoodIn wsX9_init (wsX5_init) := ggX9_init_X5_init
theorem dX9_init_0 : decode cX9_init 0 = .ok (.aload_n 0, 1) := by decide +kernel
theorem dX9_init_1 : decode cX9_init 1 = .ok (.invokespecial 1, 3) := by decide +kernel
theorem dX9_init_4 : decode cX9_init 4 = .ok (.aload_n 0, 1) := by decide +kernel
theorem dX9_init_5 : decode cX9_init 5 = .ok (.new 7, 3) := by decide +kernel
theorem dX9_init_8 : decode cX9_init 8 = .ok (.dup, 1) := by decide +kernel
theorem dX9_init_9 : decode cX9_init 9 = .ok (.invokespecial 9, 3) := by decide +kernel
theorem dX9_init_12 : decode cX9_init 12 = .ok (.putfield 10, 3) := by decide +kernel
theorem dX9_init_15 : decode cX9_init 15 = .ok (.aload_n 0, 1) := by decide +kernel
theorem dX9_init_16 : decode cX9_init 16 = .ok (.new 7, 3) := by decide +kernel
theorem dX9_init_19 : decode cX9_init 19 = .ok (.dup, 1) := by decide +kernel
theorem dX9_init_20 : decode cX9_init 20 = .ok (.invokespecial 9, 3) := by decide +kernel
theorem dX9_init_23 : decode cX9_init 23 = .ok (.putfield 16, 3) := by decide +kernel
theorem dX9_init_26 : decode cX9_init 26 = .ok (.aload_n 0, 1) := by decide +kernel
theorem dX9_init_27 : decode cX9_init 27 = .ok (.new 19, 3) := by decide +kernel
theorem dX9_init_30 : decode cX9_init 30 = .ok (.dup, 1) := by decide +kernel
theorem dX9_init_31 : decode cX9_init 31 = .ok (.invokespecial 21, 3) := by decide +kernel
theorem dX9_init_34 : decode cX9_init 34 = .ok (.putfield 22, 3) := by decide +kernel
theorem dX9_init_37 : decode cX9_init 37 = .ok (.aload_n 0, 1) := by decide +kernel
theorem dX9_init_38 : decode cX9_init 38 = .ok (.new 19, 3) := by decide +kernel
theorem dX9_init_41 : decode cX9_init 41 = .ok (.dup, 1) := by decide +kernel
theorem dX9_init_42 : decode cX9_init 42 = .ok (.invokespecial 21, 3) := by decide +kernel
theorem dX9_init_45 : decode cX9_init 45 = .ok (.putfield 26, 3) := by decide +kernel
theorem dX9_init_48 : decode cX9_init 48 = .ok (.aload_n 0, 1) := by decide +kernel
theorem dX9_init_49 : decode cX9_init 49 = .ok (.new 29, 3) := by decide +kernel
theorem dX9_init_52 : decode cX9_init 52 = .ok (.dup, 1) := by decide +kernel
theorem dX9_init_53 : decode cX9_init 53 = .ok (.invokespecial 31, 3) := by decide +kernel
theorem dX9_init_56 : decode cX9_init 56 = .ok (.putfield 32, 3) := by decide +kernel
theorem dX9_init_59 : decode cX9_init 59 = .ok (.aload_n 0, 1) := by decide +kernel
theorem dX9_init_60 : decode cX9_init 60 = .ok (.new 36, 3) := by decide +kernel
theorem dX9_init_63 : decode cX9_init 63 = .ok (.dup, 1) := by decide +kernel
theorem dX9_init_64 : decode cX9_init 64 = .ok (.invokespecial 38, 3) := by decide +kernel
theorem dX9_init_67 : decode cX9_init 67 = .ok (.putfield 39, 3) := by decide +kernel
theorem dX9_init_70 : decode cX9_init 70 = .ok (.return_, 1) := by decide +kernel
set_option maxRecDepth 20000 in
theorem ggX9_load_X9_within : GoodIn wsX9_load wsX9_within := goodIn_r _ [12] (by decide +kernel) (by decide +kernel)
set_option maxRecDepth 20000 in
theorem gX9_load_X9_within : GoodIn wsX9_load (va_wsS RX9 43 yX9_within wsX9_within) := goodIn_app (goodIn_of _ (by decide +kernel)) ggX9_load_X9_within
set_option maxRecDepth 20000 in
theorem ggX9_load_X2_append : GoodIn wsX9_load wsX2_append := goodIn_r _ [17, 18, 19, 20, 21, 22, 23, 40, 41, 49, 50, 51, 52] (by decide +kernel) (by decide +kernel)
set_option maxRecDepth 20000 in
theorem gX9_load_X2_append : GoodIn wsX9_load (wsV RX9 69 RX2 yX2_append wsX2_append) := goodIn_app (goodIn_of _ (by decide +kernel)) ggX9_load_X2_append
theorem dX9_load_0 : decode cX9_load 0 = .ok (.iload_n 1, 1) := by decide +kernel
theorem dX9_load_1 : decode cX9_load 1 = .ok (.iconst 1, 1) := by decide +kernel
theorem dX9_load_2 : decode cX9_load 2 = .ok (.bipush 100, 2) := by decide +kernel
theorem dX9_load_4 : decode cX9_load 4 = .ok (.invokestatic 43, 3) := by decide +kernel
theorem dX9_load_7 : decode cX9_load 7 = .ok (.ifCond .eq 23, 3) := by decide +kernel
theorem dX9_load_10 : decode cX9_load 10 = .ok (.iload_n 2, 1) := by decide +kernel
theorem dX9_load_11 : decode cX9_load 11 = .ok (.iconst 0, 1) := by decide +kernel
theorem dX9_load_12 : decode cX9_load 12 = .ok (.ldc 47, 2) := by decide +kernel
theorem dX9_load_14 : decode cX9_load 14 = .ok (.invokestatic 43, 3) := by decide +kernel
theorem dX9_load_17 : decode cX9_load 17 = .ok (.ifCond .eq 13, 3) := by decide +kernel
theorem dX9_load_20 : decode cX9_load 20 = .ok (.iload_n 3, 1) := by decide +kernel
theorem dX9_load_21 : decode cX9_load 21 = .ok (.iconst 0, 1) := by decide +kernel
theorem dX9_load_22 : decode cX9_load 22 = .ok (.ldc 48, 2) := by decide +kernel
theorem dX9_load_24 : decode cX9_load 24 = .ok (.invokestatic 43, 3) := by decide +kernel
theorem dX9_load_27 : decode cX9_load 27 = .ok (.ifCond .ne 6, 3) := by decide +kernel
theorem dX9_load_30 : decode cX9_load 30 = .ok (.bipush (-2), 2) := by decide +kernel
theorem dX9_load_32 : decode cX9_load 32 = .ok (.ireturn, 1) := by decide +kernel
theorem dX9_load_33 : decode cX9_load 33 = .ok (.aload_n 0, 1) := by decide +kernel
theorem dX9_load_34 : decode cX9_load 34 = .ok (.getfield 10, 3) := by decide +kernel
theorem dX9_load_37 : decode cX9_load 37 = .ok (.getfield 49, 3) := by decide +kernel
theorem dX9_load_40 : decode cX9_load 40 = .ok (.getfield 53, 3) := by decide +kernel
theorem dX9_load_43 : decode cX9_load 43 = .ok (.bipush 10, 2) := by decide +kernel
theorem dX9_load_45 : decode cX9_load 45 = .ok (.if_icmp .lt 6, 3) := by decide +kernel
theorem dX9_load_48 : decode cX9_load 48 = .ok (.bipush (-4), 2) := by decide +kernel
theorem dX9_load_50 : decode cX9_load 50 = .ok (.ireturn, 1) := by decide +kernel
theorem dX9_load_51 : decode cX9_load 51 = .ok (.aload_n 0, 1) := by decide +kernel
theorem dX9_load_52 : decode cX9_load 52 = .ok (.getfield 10, 3) := by decide +kernel
theorem dX9_load_55 : decode cX9_load 55 = .ok (.getfield 59, 3) := by decide +kernel
theorem dX9_load_58 : decode cX9_load 58 = .ok (.getfield 63, 3) := by decide +kernel
theorem dX9_load_61 : decode cX9_load 61 = .ok (.ifCond .ne 6, 3) := by decide +kernel
theorem dX9_load_64 : decode cX9_load 64 = .ok (.bipush (-5), 2) := by decide +kernel
theorem dX9_load_66 : decode cX9_load 66 = .ok (.ireturn, 1) := by decide +kernel
theorem dX9_load_67 : decode cX9_load 67 = .ok (.aload_n 0, 1) := by decide +kernel
theorem dX9_load_68 : decode cX9_load 68 = .ok (.getfield 10, 3) := by decide +kernel
theorem dX9_load_71 : decode cX9_load 71 = .ok (.getfield 49, 3) := by decide +kernel
theorem dX9_load_74 : decode cX9_load 74 = .ok (.iload_n 1, 1) := by decide +kernel
theorem dX9_load_75 : decode cX9_load 75 = .ok (.iload_n 2, 1) := by decide +kernel
theorem dX9_load_76 : decode cX9_load 76 = .ok (.iload_n 3, 1) := by decide +kernel
theorem dX9_load_77 : decode cX9_load 77 = .ok (.invokevirtual 69, 3) := by decide +kernel
theorem dX9_load_80 : decode cX9_load 80 = .ok (.aload_n 0, 1) := by decide +kernel
theorem dX9_load_81 : decode cX9_load 81 = .ok (.getfield 10, 3) := by decide +kernel
theorem dX9_load_84 : decode cX9_load 84 = .ok (.dup, 1) := by decide +kernel
theorem dX9_load_85 : decode cX9_load 85 = .ok (.getfield 73, 3) := by decide +kernel
theorem dX9_load_88 : decode cX9_load 88 = .ok (.iload_n 3, 1) := by decide +kernel
theorem dX9_load_89 : decode cX9_load 89 = .ok (.i2l, 1) := by decide +kernel
theorem dX9_load_90 : decode cX9_load 90 = .ok (.ladd, 1) := by decide +kernel
theorem dX9_load_91 : decode cX9_load 91 = .ok (.putfield 73, 3) := by decide +kernel
theorem dX9_load_94 : decode cX9_load 94 = .ok (.aload_n 0, 1) := by decide +kernel
theorem dX9_load_95 : decode cX9_load 95 = .ok (.getfield 10, 3) := by decide +kernel
theorem dX9_load_98 : decode cX9_load 98 = .ok (.getfield 49, 3) := by decide +kernel
theorem dX9_load_101 : decode cX9_load 101 = .ok (.getfield 53, 3) := by decide +kernel
theorem dX9_load_104 : decode cX9_load 104 = .ok (.iconst 1, 1) := by decide +kernel
theorem dX9_load_105 : decode cX9_load 105 = .ok (.isub, 1) := by decide +kernel
theorem dX9_load_106 : decode cX9_load 106 = .ok (.ireturn, 1) := by decide +kernel
set_option maxRecDepth 20000 in
theorem ggX9_unload_X2_boxAt : GoodIn wsX9_unload wsX2_boxAt := goodIn_r _ [11, 12, 13, 14, 15, 16, 52, 53] (by decide +kernel) (by decide +kernel)
set_option maxRecDepth 20000 in
theorem gX9_unload_X2_boxAt : GoodIn wsX9_unload (wsV RX9 77 RX2 yX2_boxAt wsX2_boxAt) := goodIn_app (goodIn_of _ (by decide +kernel)) ggX9_unload_X2_boxAt
set_option maxRecDepth 20000 in
theorem ggX9_unload_X2_takeOut : GoodIn wsX9_unload wsX2_takeOut := goodIn_r _ [20, 12, 14, 15, 16, 21, 22, 23, 10, 24, 13, 52, 53] (by decide +kernel) (by decide +kernel)
set_option maxRecDepth 20000 in
theorem gX9_unload_X2_takeOut : GoodIn wsX9_unload (wsV RX9 86 RX2 yX2_takeOut wsX2_takeOut) := goodIn_app (goodIn_of _ (by decide +kernel)) ggX9_unload_X2_takeOut
theorem dX9_unload_0 : decode cX9_unload 0 = .ok (.aload_n 0, 1) := by decide +kernel
theorem dX9_unload_1 : decode cX9_unload 1 = .ok (.getfield 10, 3) := by decide +kernel
theorem dX9_unload_4 : decode cX9_unload 4 = .ok (.getfield 49, 3) := by decide +kernel
theorem dX9_unload_7 : decode cX9_unload 7 = .ok (.iload_n 1, 1) := by decide +kernel
theorem dX9_unload_8 : decode cX9_unload 8 = .ok (.invokevirtual 77, 3) := by decide +kernel
theorem dX9_unload_11 : decode cX9_unload 11 = .ok (.astore_n 2, 1) := by decide +kernel
theorem dX9_unload_12 : decode cX9_unload 12 = .ok (.aload_n 2, 1) := by decide +kernel
theorem dX9_unload_13 : decode cX9_unload 13 = .ok (.ifnonnull 5, 3) := by decide +kernel
theorem dX9_unload_16 : decode cX9_unload 16 = .ok (.iconst (-1), 1) := by decide +kernel
theorem dX9_unload_17 : decode cX9_unload 17 = .ok (.ireturn, 1) := by decide +kernel
theorem dX9_unload_18 : decode cX9_unload 18 = .ok (.aload_n 0, 1) := by decide +kernel
theorem dX9_unload_19 : decode cX9_unload 19 = .ok (.getfield 10, 3) := by decide +kernel
theorem dX9_unload_22 : decode cX9_unload 22 = .ok (.getfield 59, 3) := by decide +kernel
theorem dX9_unload_25 : decode cX9_unload 25 = .ok (.getfield 63, 3) := by decide +kernel
theorem dX9_unload_28 : decode cX9_unload 28 = .ok (.ifCond .ne 6, 3) := by decide +kernel
theorem dX9_unload_31 : decode cX9_unload 31 = .ok (.bipush (-5), 2) := by decide +kernel
theorem dX9_unload_33 : decode cX9_unload 33 = .ok (.ireturn, 1) := by decide +kernel
theorem dX9_unload_34 : decode cX9_unload 34 = .ok (.aload_n 2, 1) := by decide +kernel
theorem dX9_unload_35 : decode cX9_unload 35 = .ok (.getfield 81, 3) := by decide +kernel
theorem dX9_unload_38 : decode cX9_unload 38 = .ok (.istore_n 3, 1) := by decide +kernel
theorem dX9_unload_39 : decode cX9_unload 39 = .ok (.aload_n 0, 1) := by decide +kernel
theorem dX9_unload_40 : decode cX9_unload 40 = .ok (.getfield 10, 3) := by decide +kernel
theorem dX9_unload_43 : decode cX9_unload 43 = .ok (.getfield 49, 3) := by decide +kernel
theorem dX9_unload_46 : decode cX9_unload 46 = .ok (.iload_n 1, 1) := by decide +kernel
theorem dX9_unload_47 : decode cX9_unload 47 = .ok (.invokevirtual 86, 3) := by decide +kernel
theorem dX9_unload_50 : decode cX9_unload 50 = .ok (.aload_n 0, 1) := by decide +kernel
theorem dX9_unload_51 : decode cX9_unload 51 = .ok (.getfield 10, 3) := by decide +kernel
theorem dX9_unload_54 : decode cX9_unload 54 = .ok (.dup, 1) := by decide +kernel
theorem dX9_unload_55 : decode cX9_unload 55 = .ok (.getfield 90, 3) := by decide +kernel
theorem dX9_unload_58 : decode cX9_unload 58 = .ok (.iload_n 3, 1) := by decide +kernel
theorem dX9_unload_59 : decode cX9_unload 59 = .ok (.i2l, 1) := by decide +kernel
theorem dX9_unload_60 : decode cX9_unload 60 = .ok (.ladd, 1) := by decide +kernel
theorem dX9_unload_61 : decode cX9_unload 61 = .ok (.putfield 90, 3) := by decide +kernel
theorem dX9_unload_64 : decode cX9_unload 64 = .ok (.iload_n 3, 1) := by decide +kernel
theorem dX9_unload_65 : decode cX9_unload 65 = .ok (.ireturn, 1) := by decide +kernel
set_option maxRecDepth 20000 in
theorem ggX9_shift_X2_boxAt : GoodIn wsX9_shift wsX2_boxAt := goodIn_r _ [8, 9, 10, 11, 12, 13, 38, 39] (by decide +kernel) (by decide +kernel)
set_option maxRecDepth 20000 in
theorem gX9_shift_X2_boxAt : GoodIn wsX9_shift (wsV RX9 77 RX2 yX2_boxAt wsX2_boxAt) := goodIn_app (goodIn_of _ (by decide +kernel)) ggX9_shift_X2_boxAt
set_option maxRecDepth 20000 in
theorem ggX9_shift_X2_move : GoodIn wsX9_shift wsX2_move := goodIn_r _ [17, 9, 10, 11, 12, 13, 38, 39] (by decide +kernel) (by decide +kernel)
set_option maxRecDepth 20000 in
theorem gX9_shift_X2_move : GoodIn wsX9_shift (wsV RX9 93 RX2 yX2_move wsX2_move) := goodIn_app (goodIn_of _ (by decide +kernel)) ggX9_shift_X2_move
theorem dX9_shift_0 : decode cX9_shift 0 = .ok (.aload_n 0, 1) := by decide +kernel
theorem dX9_shift_1 : decode cX9_shift 1 = .ok (.getfield 10, 3) := by decide +kernel
theorem dX9_shift_4 : decode cX9_shift 4 = .ok (.getfield 49, 3) := by decide +kernel
theorem dX9_shift_7 : decode cX9_shift 7 = .ok (.iload_n 1, 1) := by decide +kernel
theorem dX9_shift_8 : decode cX9_shift 8 = .ok (.invokevirtual 77, 3) := by decide +kernel
theorem dX9_shift_11 : decode cX9_shift 11 = .ok (.astore_n 3, 1) := by decide +kernel
theorem dX9_shift_12 : decode cX9_shift 12 = .ok (.aload_n 3, 1) := by decide +kernel
theorem dX9_shift_13 : decode cX9_shift 13 = .ok (.ifnull 17, 3) := by decide +kernel
theorem dX9_shift_16 : decode cX9_shift 16 = .ok (.aload_n 0, 1) := by decide +kernel
theorem dX9_shift_17 : decode cX9_shift 17 = .ok (.getfield 10, 3) := by decide +kernel
theorem dX9_shift_20 : decode cX9_shift 20 = .ok (.getfield 49, 3) := by decide +kernel
theorem dX9_shift_23 : decode cX9_shift 23 = .ok (.iload_n 2, 1) := by decide +kernel
theorem dX9_shift_24 : decode cX9_shift 24 = .ok (.invokevirtual 77, 3) := by decide +kernel
theorem dX9_shift_27 : decode cX9_shift 27 = .ok (.ifnonnull 5, 3) := by decide +kernel
theorem dX9_shift_30 : decode cX9_shift 30 = .ok (.iconst (-1), 1) := by decide +kernel
theorem dX9_shift_31 : decode cX9_shift 31 = .ok (.ireturn, 1) := by decide +kernel
theorem dX9_shift_32 : decode cX9_shift 32 = .ok (.aload_n 0, 1) := by decide +kernel
theorem dX9_shift_33 : decode cX9_shift 33 = .ok (.getfield 10, 3) := by decide +kernel
theorem dX9_shift_36 : decode cX9_shift 36 = .ok (.getfield 49, 3) := by decide +kernel
theorem dX9_shift_39 : decode cX9_shift 39 = .ok (.iload_n 1, 1) := by decide +kernel
theorem dX9_shift_40 : decode cX9_shift 40 = .ok (.iload_n 2, 1) := by decide +kernel
theorem dX9_shift_41 : decode cX9_shift 41 = .ok (.invokevirtual 93, 3) := by decide +kernel
theorem dX9_shift_44 : decode cX9_shift 44 = .ok (.aload_n 3, 1) := by decide +kernel
theorem dX9_shift_45 : decode cX9_shift 45 = .ok (.getfield 81, 3) := by decide +kernel
theorem dX9_shift_48 : decode cX9_shift 48 = .ok (.ireturn, 1) := by decide +kernel
set_option maxRecDepth 20000 in
theorem ggX9_set_X6_allows : GoodIn wsX9_set wsX6_allows := goodIn_r _ [7, 8, 9, 10] (by decide +kernel) (by decide +kernel)
set_option maxRecDepth 20000 in
theorem gX9_set_X6_allows : GoodIn wsX9_set (wsV RX9 101 RX6 yX6_allows wsX6_allows) := goodIn_app (goodIn_of _ (by decide +kernel)) ggX9_set_X6_allows
set_option maxRecDepth 20000 in
theorem ggX9_set_X6_change : GoodIn wsX9_set wsX6_change := goodIn_r _ [14, 15, 16, 17, 18, 6, 19, 8, 9, 10, 20, 4, 5, 7, 37] (by decide +kernel) (by decide +kernel)
set_option maxRecDepth 20000 in
theorem gX9_set_X6_change : GoodIn wsX9_set (wsV RX9 107 RX6 yX6_change wsX6_change) := goodIn_app (goodIn_of _ (by decide +kernel)) ggX9_set_X6_change
theorem dX9_set_0 : decode cX9_set 0 = .ok (.aload_n 0, 1) := by decide +kernel
theorem dX9_set_1 : decode cX9_set 1 = .ok (.getfield 10, 3) := by decide +kernel
theorem dX9_set_4 : decode cX9_set 4 = .ok (.getfield 97, 3) := by decide +kernel
theorem dX9_set_7 : decode cX9_set 7 = .ok (.iload_n 1, 1) := by decide +kernel
theorem dX9_set_8 : decode cX9_set 8 = .ok (.iload_n 2, 1) := by decide +kernel
theorem dX9_set_9 : decode cX9_set 9 = .ok (.invokevirtual 101, 3) := by decide +kernel
theorem dX9_set_12 : decode cX9_set 12 = .ok (.ifCond .ne 6, 3) := by decide +kernel
theorem dX9_set_15 : decode cX9_set 15 = .ok (.bipush (-2), 2) := by decide +kernel
theorem dX9_set_17 : decode cX9_set 17 = .ok (.ireturn, 1) := by decide +kernel
theorem dX9_set_18 : decode cX9_set 18 = .ok (.aload_n 0, 1) := by decide +kernel
theorem dX9_set_19 : decode cX9_set 19 = .ok (.getfield 10, 3) := by decide +kernel
theorem dX9_set_22 : decode cX9_set 22 = .ok (.getfield 97, 3) := by decide +kernel
theorem dX9_set_25 : decode cX9_set 25 = .ok (.iload_n 1, 1) := by decide +kernel
theorem dX9_set_26 : decode cX9_set 26 = .ok (.iload_n 2, 1) := by decide +kernel
theorem dX9_set_27 : decode cX9_set 27 = .ok (.invokevirtual 107, 3) := by decide +kernel
theorem dX9_set_30 : decode cX9_set 30 = .ok (.ireturn, 1) := by decide +kernel
set_option maxRecDepth 20000 in
theorem ggX9_leg_X9_within : GoodIn wsX9_leg wsX9_within := goodIn_r _ [7] (by decide +kernel) (by decide +kernel)
set_option maxRecDepth 20000 in
theorem gX9_leg_X9_within : GoodIn wsX9_leg (va_wsS RX9 43 yX9_within wsX9_within) := goodIn_app (goodIn_of _ (by decide +kernel)) ggX9_leg_X9_within
set_option maxRecDepth 20000 in
theorem ggX9_leg_X4_append : GoodIn wsX9_leg wsX4_append := goodIn_r _ [12, 13, 14, 15, 32, 33, 34, 35, 36] (by decide +kernel) (by decide +kernel)
set_option maxRecDepth 20000 in
theorem gX9_leg_X4_append : GoodIn wsX9_leg (wsV RX9 118 RX4 yX4_append wsX4_append) := goodIn_app (goodIn_of _ (by decide +kernel)) ggX9_leg_X4_append
theorem dX9_leg_0 : decode cX9_leg 0 = .ok (.iload_n 1, 1) := by decide +kernel
theorem dX9_leg_1 : decode cX9_leg 1 = .ok (.iconst 1, 1) := by decide +kernel
theorem dX9_leg_2 : decode cX9_leg 2 = .ok (.sipush 600, 3) := by decide +kernel
theorem dX9_leg_5 : decode cX9_leg 5 = .ok (.invokestatic 43, 3) := by decide +kernel
theorem dX9_leg_8 : decode cX9_leg 8 = .ok (.ifCond .eq 16, 3) := by decide +kernel
theorem dX9_leg_11 : decode cX9_leg 11 = .ok (.iload_n 2, 1) := by decide +kernel
theorem dX9_leg_12 : decode cX9_leg 12 = .ok (.sipush (-4000), 3) := by decide +kernel
theorem dX9_leg_15 : decode cX9_leg 15 = .ok (.sipush 5000, 3) := by decide +kernel
theorem dX9_leg_18 : decode cX9_leg 18 = .ok (.invokestatic 43, 3) := by decide +kernel
theorem dX9_leg_21 : decode cX9_leg 21 = .ok (.ifCond .ne 6, 3) := by decide +kernel
theorem dX9_leg_24 : decode cX9_leg 24 = .ok (.bipush (-2), 2) := by decide +kernel
theorem dX9_leg_26 : decode cX9_leg 26 = .ok (.ireturn, 1) := by decide +kernel
theorem dX9_leg_27 : decode cX9_leg 27 = .ok (.aload_n 0, 1) := by decide +kernel
theorem dX9_leg_28 : decode cX9_leg 28 = .ok (.getfield 10, 3) := by decide +kernel
theorem dX9_leg_31 : decode cX9_leg 31 = .ok (.getfield 111, 3) := by decide +kernel
theorem dX9_leg_34 : decode cX9_leg 34 = .ok (.getfield 115, 3) := by decide +kernel
theorem dX9_leg_37 : decode cX9_leg 37 = .ok (.bipush 12, 2) := by decide +kernel
theorem dX9_leg_39 : decode cX9_leg 39 = .ok (.if_icmp .lt 6, 3) := by decide +kernel
theorem dX9_leg_42 : decode cX9_leg 42 = .ok (.bipush (-4), 2) := by decide +kernel
theorem dX9_leg_44 : decode cX9_leg 44 = .ok (.ireturn, 1) := by decide +kernel
theorem dX9_leg_45 : decode cX9_leg 45 = .ok (.aload_n 0, 1) := by decide +kernel
theorem dX9_leg_46 : decode cX9_leg 46 = .ok (.getfield 10, 3) := by decide +kernel
theorem dX9_leg_49 : decode cX9_leg 49 = .ok (.getfield 111, 3) := by decide +kernel
theorem dX9_leg_52 : decode cX9_leg 52 = .ok (.iload_n 1, 1) := by decide +kernel
theorem dX9_leg_53 : decode cX9_leg 53 = .ok (.iload_n 2, 1) := by decide +kernel
theorem dX9_leg_54 : decode cX9_leg 54 = .ok (.invokevirtual 118, 3) := by decide +kernel
theorem dX9_leg_57 : decode cX9_leg 57 = .ok (.aload_n 0, 1) := by decide +kernel
theorem dX9_leg_58 : decode cX9_leg 58 = .ok (.getfield 10, 3) := by decide +kernel
theorem dX9_leg_61 : decode cX9_leg 61 = .ok (.getfield 111, 3) := by decide +kernel
theorem dX9_leg_64 : decode cX9_leg 64 = .ok (.getfield 115, 3) := by decide +kernel
theorem dX9_leg_67 : decode cX9_leg 67 = .ok (.iconst 1, 1) := by decide +kernel
theorem dX9_leg_68 : decode cX9_leg 68 = .ok (.isub, 1) := by decide +kernel
theorem dX9_leg_69 : decode cX9_leg 69 = .ok (.ireturn, 1) := by decide +kernel
set_option maxRecDepth 20000 in
theorem ggX9_cut_X4_hasNextLeg : GoodIn wsX9_cut wsX4_hasNextLeg := goodIn_r _ [8, 9, 10, 11, 12, 7, 13, 14, 15, 16, 17, 34, 35, 36, 37, 38] (by decide +kernel) (by decide +kernel)
set_option maxRecDepth 20000 in
theorem gX9_cut_X4_hasNextLeg : GoodIn wsX9_cut (wsV RX9 120 RX4 yX4_hasNextLeg wsX4_hasNextLeg) := goodIn_app (goodIn_of _ (by decide +kernel)) ggX9_cut_X4_hasNextLeg
theorem dX9_cut_0 : decode cX9_cut 0 = .ok (.aload_n 0, 1) := by decide +kernel
theorem dX9_cut_1 : decode cX9_cut 1 = .ok (.getfield 10, 3) := by decide +kernel
theorem dX9_cut_4 : decode cX9_cut 4 = .ok (.getfield 111, 3) := by decide +kernel
theorem dX9_cut_7 : decode cX9_cut 7 = .ok (.invokevirtual 120, 3) := by decide +kernel
theorem dX9_cut_10 : decode cX9_cut 10 = .ok (.ifCond .ne 6, 3) := by decide +kernel
theorem dX9_cut_13 : decode cX9_cut 13 = .ok (.bipush (-5), 2) := by decide +kernel
theorem dX9_cut_15 : decode cX9_cut 15 = .ok (.ireturn, 1) := by decide +kernel
theorem dX9_cut_16 : decode cX9_cut 16 = .ok (.aload_n 0, 1) := by decide +kernel
theorem dX9_cut_17 : decode cX9_cut 17 = .ok (.getfield 10, 3) := by decide +kernel
theorem dX9_cut_20 : decode cX9_cut 20 = .ok (.getfield 111, 3) := by decide +kernel
theorem dX9_cut_23 : decode cX9_cut 23 = .ok (.dup, 1) := by decide +kernel
theorem dX9_cut_24 : decode cX9_cut 24 = .ok (.getfield 115, 3) := by decide +kernel
theorem dX9_cut_27 : decode cX9_cut 27 = .ok (.iconst 1, 1) := by decide +kernel
theorem dX9_cut_28 : decode cX9_cut 28 = .ok (.isub, 1) := by decide +kernel
theorem dX9_cut_29 : decode cX9_cut 29 = .ok (.putfield 115, 3) := by decide +kernel
theorem dX9_cut_32 : decode cX9_cut 32 = .ok (.aload_n 0, 1) := by decide +kernel
theorem dX9_cut_33 : decode cX9_cut 33 = .ok (.getfield 10, 3) := by decide +kernel
theorem dX9_cut_36 : decode cX9_cut 36 = .ok (.getfield 111, 3) := by decide +kernel
theorem dX9_cut_39 : decode cX9_cut 39 = .ok (.getfield 115, 3) := by decide +kernel
theorem dX9_cut_42 : decode cX9_cut 42 = .ok (.ireturn, 1) := by decide +kernel
set_option maxRecDepth 20000 in
theorem ggX9_depart_X4_isOnTheWay : GoodIn wsX9_depart wsX4_isOnTheWay := goodIn_r _ [10, 11, 54, 55, 56, 57, 58] (by decide +kernel) (by decide +kernel)
set_option maxRecDepth 20000 in
theorem gX9_depart_X4_isOnTheWay : GoodIn wsX9_depart (wsV RX9 124 RX4 yX4_isOnTheWay wsX4_isOnTheWay) := goodIn_app (goodIn_of _ (by decide +kernel)) ggX9_depart_X4_isOnTheWay
set_option maxRecDepth 20000 in
theorem ggX9_depart_X4_hasNextLeg : GoodIn wsX9_depart wsX4_hasNextLeg := goodIn_r _ [15, 16, 17, 18, 19, 9, 20, 21, 22, 23, 24, 54, 55, 56, 57, 58] (by decide +kernel) (by decide +kernel)
set_option maxRecDepth 20000 in
theorem gX9_depart_X4_hasNextLeg : GoodIn wsX9_depart (wsV RX9 120 RX4 yX4_hasNextLeg wsX4_hasNextLeg) := goodIn_app (goodIn_of _ (by decide +kernel)) ggX9_depart_X4_hasNextLeg
set_option maxRecDepth 20000 in
theorem ggX9_depart_X4_beginNextLeg : GoodIn wsX9_depart wsX4_beginNextLeg := goodIn_r _ [28, 16, 29, 11, 30, 13, 14, 9, 15, 17, 18, 19, 20, 21, 22, 23, 24, 54, 55, 56, 57, 58] (by decide +kernel) (by decide +kernel)
set_option maxRecDepth 20000 in
theorem gX9_depart_X4_beginNextLeg : GoodIn wsX9_depart (wsV RX9 127 RX4 yX4_beginNextLeg wsX4_beginNextLeg) := goodIn_app (goodIn_of _ (by decide +kernel)) ggX9_depart_X4_beginNextLeg
theorem dX9_depart_0 : decode cX9_depart 0 = .ok (.aload_n 0, 1) := by decide +kernel
theorem dX9_depart_1 : decode cX9_depart 1 = .ok (.getfield 10, 3) := by decide +kernel
theorem dX9_depart_4 : decode cX9_depart 4 = .ok (.getfield 111, 3) := by decide +kernel
theorem dX9_depart_7 : decode cX9_depart 7 = .ok (.invokevirtual 124, 3) := by decide +kernel
theorem dX9_depart_10 : decode cX9_depart 10 = .ok (.ifCond .ne 29, 3) := by decide +kernel
theorem dX9_depart_13 : decode cX9_depart 13 = .ok (.aload_n 0, 1) := by decide +kernel
theorem dX9_depart_14 : decode cX9_depart 14 = .ok (.getfield 10, 3) := by decide +kernel
theorem dX9_depart_17 : decode cX9_depart 17 = .ok (.getfield 59, 3) := by decide +kernel
theorem dX9_depart_20 : decode cX9_depart 20 = .ok (.getfield 63, 3) := by decide +kernel
theorem dX9_depart_23 : decode cX9_depart 23 = .ok (.ifCond .ne 16, 3) := by decide +kernel
theorem dX9_depart_26 : decode cX9_depart 26 = .ok (.aload_n 0, 1) := by decide +kernel
theorem dX9_depart_27 : decode cX9_depart 27 = .ok (.getfield 10, 3) := by decide +kernel
theorem dX9_depart_30 : decode cX9_depart 30 = .ok (.getfield 111, 3) := by decide +kernel
theorem dX9_depart_33 : decode cX9_depart 33 = .ok (.invokevirtual 120, 3) := by decide +kernel
theorem dX9_depart_36 : decode cX9_depart 36 = .ok (.ifCond .ne 6, 3) := by decide +kernel
theorem dX9_depart_39 : decode cX9_depart 39 = .ok (.bipush (-5), 2) := by decide +kernel
theorem dX9_depart_41 : decode cX9_depart 41 = .ok (.ireturn, 1) := by decide +kernel
theorem dX9_depart_42 : decode cX9_depart 42 = .ok (.aload_n 0, 1) := by decide +kernel
theorem dX9_depart_43 : decode cX9_depart 43 = .ok (.getfield 10, 3) := by decide +kernel
theorem dX9_depart_46 : decode cX9_depart 46 = .ok (.getfield 111, 3) := by decide +kernel
theorem dX9_depart_49 : decode cX9_depart 49 = .ok (.invokevirtual 127, 3) := by decide +kernel
theorem dX9_depart_52 : decode cX9_depart 52 = .ok (.aload_n 0, 1) := by decide +kernel
theorem dX9_depart_53 : decode cX9_depart 53 = .ok (.getfield 10, 3) := by decide +kernel
theorem dX9_depart_56 : decode cX9_depart 56 = .ok (.getfield 111, 3) := by decide +kernel
theorem dX9_depart_59 : decode cX9_depart 59 = .ok (.getfield 130, 3) := by decide +kernel
theorem dX9_depart_62 : decode cX9_depart 62 = .ok (.ireturn, 1) := by decide +kernel
set_option maxRecDepth 20000 in
theorem ggX9_pass_X9_within : GoodIn wsX9_pass wsX9_within := goodIn_r _ [13] (by decide +kernel) (by decide +kernel)
set_option maxRecDepth 20000 in
theorem gX9_pass_X9_within : GoodIn wsX9_pass (va_wsS RX9 43 yX9_within wsX9_within) := goodIn_app (goodIn_of _ (by decide +kernel)) ggX9_pass_X9_within
set_option maxRecDepth 20000 in
theorem ggX9_pass_X8_letPass : GoodIn wsX9_pass wsX8_letPass := goodIn_r _ [18, 19, 20, 21, 17, 22, 23, 24, 25, 26, 27, 28, 29, 30, 31, 32, 33, 34, 35, 11, 12, 13, 36, 37, 38, 39, 40, 41, 42, 43, 44, 45, 46, 47, 48, 49, 50, 51, 8, 52, 53, 54, 55, 56, 57, 58, 59, 60, 61, 62, 63, 64, 65, 66, 67, 68, 69, 70, 71, 72, 73, 74, 75, 76, 77, 78, 79, 80, 81, 82, 83, 84, 85, 86, 87, 88, 89, 90, 91, 92, 93, 7, 9, 94, 95, 96, 97, 98, 99, 100, 101, 102, 103, 104, 105, 106, 107, 108, 109, 110, 111, 112, 113, 114, 115, 116, 117, 118, 119, 120, 121, 122, 123, 124, 125, 126, 127, 128, 129, 130, 131, 132, 139, 140, 141, 142, 143, 144, 145, 146, 147, 148, 154, 155, 156, 157, 158, 159, 160, 161, 162, 163, 164, 165, 166, 167, 149, 150, 151, 152, 153] (by decide +kernel) (by decide +kernel)
set_option maxRecDepth 20000 in
theorem gX9_pass_X8_letPass : GoodIn wsX9_pass (wsV RX9 145 RX8 yX8_letPass wsX8_letPass) := goodIn_app (goodIn_of _ (by decide +kernel)) ggX9_pass_X8_letPass
theorem dX9_pass_0 : decode cX9_pass 0 = .ok (.iload_n 1, 1) := by decide +kernel
theorem dX9_pass_1 : decode cX9_pass 1 = .ok (.iconst 1, 1) := by decide +kernel
theorem dX9_pass_2 : decode cX9_pass 2 = .ok (.sipush 1000, 3) := by decide +kernel
theorem dX9_pass_5 : decode cX9_pass 5 = .ok (.invokestatic 43, 3) := by decide +kernel
theorem dX9_pass_8 : decode cX9_pass 8 = .ok (.ifCond .ne 6, 3) := by decide +kernel
theorem dX9_pass_11 : decode cX9_pass 11 = .ok (.bipush (-2), 2) := by decide +kernel
theorem dX9_pass_13 : decode cX9_pass 13 = .ok (.ireturn, 1) := by decide +kernel
theorem dX9_pass_14 : decode cX9_pass 14 = .ok (.aload_n 0, 1) := by decide +kernel
theorem dX9_pass_15 : decode cX9_pass 15 = .ok (.getfield 10, 3) := by decide +kernel
theorem dX9_pass_18 : decode cX9_pass 18 = .ok (.getfield 133, 3) := by decide +kernel
theorem dX9_pass_21 : decode cX9_pass 21 = .ok (.iload_n 1, 1) := by decide +kernel
theorem dX9_pass_22 : decode cX9_pass 22 = .ok (.iadd, 1) := by decide +kernel
theorem dX9_pass_23 : decode cX9_pass 23 = .ok (.ldc 136, 2) := by decide +kernel
theorem dX9_pass_25 : decode cX9_pass 25 = .ok (.if_icmp .le 6, 3) := by decide +kernel
theorem dX9_pass_28 : decode cX9_pass 28 = .ok (.bipush (-5), 2) := by decide +kernel
theorem dX9_pass_30 : decode cX9_pass 30 = .ok (.ireturn, 1) := by decide +kernel
theorem dX9_pass_31 : decode cX9_pass 31 = .ok (.iload_n 1, 1) := by decide +kernel
theorem dX9_pass_32 : decode cX9_pass 32 = .ok (.aload_n 0, 1) := by decide +kernel
theorem dX9_pass_33 : decode cX9_pass 33 = .ok (.getfield 10, 3) := by decide +kernel
theorem dX9_pass_36 : decode cX9_pass 36 = .ok (.getfield 111, 3) := by decide +kernel
theorem dX9_pass_39 : decode cX9_pass 39 = .ok (.getfield 137, 3) := by decide +kernel
theorem dX9_pass_42 : decode cX9_pass 42 = .ok (.invokestatic 140, 3) := by decide +kernel
theorem dX9_pass_45 : decode cX9_pass 45 = .ok (.istore_n 2, 1) := by decide +kernel
theorem dX9_pass_46 : decode cX9_pass 46 = .ok (.aload_n 0, 1) := by decide +kernel
theorem dX9_pass_47 : decode cX9_pass 47 = .ok (.getfield 10, 3) := by decide +kernel
theorem dX9_pass_50 : decode cX9_pass 50 = .ok (.iload_n 1, 1) := by decide +kernel
theorem dX9_pass_51 : decode cX9_pass 51 = .ok (.invokevirtual 145, 3) := by decide +kernel
theorem dX9_pass_54 : decode cX9_pass 54 = .ok (.iload_n 2, 1) := by decide +kernel
theorem dX9_pass_55 : decode cX9_pass 55 = .ok (.ireturn, 1) := by decide +kernel
set_option maxRecDepth 20000 in
theorem ggX9_vent_X9_within : GoodIn wsX9_vent wsX9_within := goodIn_r _ [7] (by decide +kernel) (by decide +kernel)
set_option maxRecDepth 20000 in
theorem gX9_vent_X9_within : GoodIn wsX9_vent (va_wsS RX9 43 yX9_within wsX9_within) := goodIn_app (goodIn_of _ (by decide +kernel)) ggX9_vent_X9_within
set_option maxRecDepth 20000 in
theorem ggX9_vent_X1_setVentMode : GoodIn wsX9_vent wsX1_setVentMode := goodIn_r _ [12, 13, 14, 15, 16, 11, 17, 18, 19, 20, 21, 22, 23, 24, 25, 26, 27, 44, 45, 46, 47, 48, 49, 50] (by decide +kernel) (by decide +kernel)
set_option maxRecDepth 20000 in
theorem gX9_vent_X1_setVentMode : GoodIn wsX9_vent (wsV RX9 151 RX1 yX1_setVentMode wsX1_setVentMode) := goodIn_app (goodIn_of _ (by decide +kernel)) ggX9_vent_X1_setVentMode
theorem dX9_vent_0 : decode cX9_vent 0 = .ok (.iload_n 1, 1) := by decide +kernel
theorem dX9_vent_1 : decode cX9_vent 1 = .ok (.iconst 0, 1) := by decide +kernel
theorem dX9_vent_2 : decode cX9_vent 2 = .ok (.iconst 2, 1) := by decide +kernel
theorem dX9_vent_3 : decode cX9_vent 3 = .ok (.invokestatic 43, 3) := by decide +kernel
theorem dX9_vent_6 : decode cX9_vent 6 = .ok (.ifCond .ne 6, 3) := by decide +kernel
theorem dX9_vent_9 : decode cX9_vent 9 = .ok (.bipush (-2), 2) := by decide +kernel
theorem dX9_vent_11 : decode cX9_vent 11 = .ok (.ireturn, 1) := by decide +kernel
theorem dX9_vent_12 : decode cX9_vent 12 = .ok (.aload_n 0, 1) := by decide +kernel
theorem dX9_vent_13 : decode cX9_vent 13 = .ok (.getfield 10, 3) := by decide +kernel
theorem dX9_vent_16 : decode cX9_vent 16 = .ok (.getfield 59, 3) := by decide +kernel
theorem dX9_vent_19 : decode cX9_vent 19 = .ok (.getfield 148, 3) := by decide +kernel
theorem dX9_vent_22 : decode cX9_vent 22 = .ok (.istore_n 2, 1) := by decide +kernel
theorem dX9_vent_23 : decode cX9_vent 23 = .ok (.aload_n 0, 1) := by decide +kernel
theorem dX9_vent_24 : decode cX9_vent 24 = .ok (.getfield 10, 3) := by decide +kernel
theorem dX9_vent_27 : decode cX9_vent 27 = .ok (.getfield 59, 3) := by decide +kernel
theorem dX9_vent_30 : decode cX9_vent 30 = .ok (.iload_n 1, 1) := by decide +kernel
theorem dX9_vent_31 : decode cX9_vent 31 = .ok (.invokevirtual 151, 3) := by decide +kernel
theorem dX9_vent_34 : decode cX9_vent 34 = .ok (.iload_n 2, 1) := by decide +kernel
theorem dX9_vent_35 : decode cX9_vent 35 = .ok (.ireturn, 1) := by decide +kernel
set_option maxRecDepth 20000 in
theorem ggX9_open_X4_isOnTheWay : GoodIn wsX9_open wsX4_isOnTheWay := goodIn_r _ [9, 10, 70, 71, 72, 73, 74] (by decide +kernel) (by decide +kernel)
set_option maxRecDepth 20000 in
theorem gX9_open_X4_isOnTheWay : GoodIn wsX9_open (wsV RX9 124 RX4 yX4_isOnTheWay wsX4_isOnTheWay) := goodIn_app (goodIn_of _ (by decide +kernel)) ggX9_open_X4_isOnTheWay
set_option maxRecDepth 20000 in
theorem ggX9_open_X8_isSafe : GoodIn wsX9_open wsX8_isSafe := goodIn_r _ [15, 16, 17, 18, 19, 14, 20, 21, 22, 23, 24, 25, 26, 27, 28, 29, 30, 31, 32, 33, 34, 35, 36, 37, 38, 39, 40, 53, 54, 55, 56, 57, 58, 59, 60, 61, 62, 63, 64, 65, 66, 67, 68, 69, 75] (by decide +kernel) (by decide +kernel)
set_option maxRecDepth 20000 in
theorem gX9_open_X8_isSafe : GoodIn wsX9_open (wsV RX9 154 RX8 yX8_isSafe wsX8_isSafe) := goodIn_app (goodIn_of _ (by decide +kernel)) ggX9_open_X8_isSafe
set_option maxRecDepth 20000 in
theorem ggX9_open_X1_openVent : GoodIn wsX9_open wsX1_openVent := goodIn_r _ [44, 45, 63, 64, 65, 66, 67, 68, 69] (by decide +kernel) (by decide +kernel)
set_option maxRecDepth 20000 in
theorem gX9_open_X1_openVent : GoodIn wsX9_open (wsV RX9 157 RX1 yX1_openVent wsX1_openVent) := goodIn_app (goodIn_of _ (by decide +kernel)) ggX9_open_X1_openVent
set_option maxRecDepth 20000 in
theorem ggX9_open_X8_concentration : GoodIn wsX9_open wsX8_concentration := goodIn_r _ [20, 21, 16, 22, 23, 24, 25, 26, 27, 28, 29, 30, 31, 32, 33, 34, 35, 36, 37, 38, 39, 53, 54, 55, 56, 57, 58, 59, 60, 61, 62, 63, 64, 65, 66, 67, 68, 69, 75] (by decide +kernel) (by decide +kernel)
set_option maxRecDepth 20000 in
theorem gX9_open_X8_concentration : GoodIn wsX9_open (wsV RX9 160 RX8 yX8_concentration wsX8_concentration) := goodIn_app (goodIn_of _ (by decide +kernel)) ggX9_open_X8_concentration
theorem dX9_open_0 : decode cX9_open 0 = .ok (.aload_n 0, 1) := by decide +kernel
theorem dX9_open_1 : decode cX9_open 1 = .ok (.getfield 10, 3) := by decide +kernel
theorem dX9_open_4 : decode cX9_open 4 = .ok (.getfield 111, 3) := by decide +kernel
theorem dX9_open_7 : decode cX9_open 7 = .ok (.invokevirtual 124, 3) := by decide +kernel
theorem dX9_open_10 : decode cX9_open 10 = .ok (.ifCond .ne 16, 3) := by decide +kernel
theorem dX9_open_13 : decode cX9_open 13 = .ok (.aload_n 0, 1) := by decide +kernel
theorem dX9_open_14 : decode cX9_open 14 = .ok (.getfield 10, 3) := by decide +kernel
theorem dX9_open_17 : decode cX9_open 17 = .ok (.getfield 59, 3) := by decide +kernel
theorem dX9_open_20 : decode cX9_open 20 = .ok (.getfield 63, 3) := by decide +kernel
theorem dX9_open_23 : decode cX9_open 23 = .ok (.ifCond .eq 6, 3) := by decide +kernel
theorem dX9_open_26 : decode cX9_open 26 = .ok (.bipush (-5), 2) := by decide +kernel
theorem dX9_open_28 : decode cX9_open 28 = .ok (.ireturn, 1) := by decide +kernel
theorem dX9_open_29 : decode cX9_open 29 = .ok (.aload_n 0, 1) := by decide +kernel
theorem dX9_open_30 : decode cX9_open 30 = .ok (.getfield 10, 3) := by decide +kernel
theorem dX9_open_33 : decode cX9_open 33 = .ok (.invokevirtual 154, 3) := by decide +kernel
theorem dX9_open_36 : decode cX9_open 36 = .ok (.ifCond .ne 16, 3) := by decide +kernel
theorem dX9_open_39 : decode cX9_open 39 = .ok (.aload_n 0, 1) := by decide +kernel
theorem dX9_open_40 : decode cX9_open 40 = .ok (.getfield 10, 3) := by decide +kernel
theorem dX9_open_43 : decode cX9_open 43 = .ok (.getfield 59, 3) := by decide +kernel
theorem dX9_open_46 : decode cX9_open 46 = .ok (.invokevirtual 157, 3) := by decide +kernel
theorem dX9_open_49 : decode cX9_open 49 = .ok (.bipush (-6), 2) := by decide +kernel
theorem dX9_open_51 : decode cX9_open 51 = .ok (.ireturn, 1) := by decide +kernel
theorem dX9_open_52 : decode cX9_open 52 = .ok (.aload_n 0, 1) := by decide +kernel
theorem dX9_open_53 : decode cX9_open 53 = .ok (.getfield 10, 3) := by decide +kernel
theorem dX9_open_56 : decode cX9_open 56 = .ok (.getfield 59, 3) := by decide +kernel
theorem dX9_open_59 : decode cX9_open 59 = .ok (.iconst 1, 1) := by decide +kernel
theorem dX9_open_60 : decode cX9_open 60 = .ok (.putfield 63, 3) := by decide +kernel
theorem dX9_open_63 : decode cX9_open 63 = .ok (.aload_n 0, 1) := by decide +kernel
theorem dX9_open_64 : decode cX9_open 64 = .ok (.getfield 10, 3) := by decide +kernel
theorem dX9_open_67 : decode cX9_open 67 = .ok (.invokevirtual 160, 3) := by decide +kernel
theorem dX9_open_70 : decode cX9_open 70 = .ok (.l2i, 1) := by decide +kernel
theorem dX9_open_71 : decode cX9_open 71 = .ok (.ireturn, 1) := by decide +kernel
set_option maxRecDepth 20000 in
theorem ggX9_shut_X8_concentration : GoodIn wsX9_shut wsX8_concentration := goodIn_r _ [8, 9, 10, 11, 12, 13, 14, 15, 16, 17, 18, 19, 20, 21, 22, 23, 24, 25, 26, 27, 28, 35, 36, 37, 38, 39, 40, 41, 42, 43, 44, 45, 46, 47, 48, 49, 50, 51, 52] (by decide +kernel) (by decide +kernel)
set_option maxRecDepth 20000 in
theorem gX9_shut_X8_concentration : GoodIn wsX9_shut (wsV RX9 160 RX8 yX8_concentration wsX8_concentration) := goodIn_app (goodIn_of _ (by decide +kernel)) ggX9_shut_X8_concentration
theorem dX9_shut_0 : decode cX9_shut 0 = .ok (.aload_n 0, 1) := by decide +kernel
theorem dX9_shut_1 : decode cX9_shut 1 = .ok (.getfield 10, 3) := by decide +kernel
theorem dX9_shut_4 : decode cX9_shut 4 = .ok (.getfield 59, 3) := by decide +kernel
theorem dX9_shut_7 : decode cX9_shut 7 = .ok (.getfield 63, 3) := by decide +kernel
theorem dX9_shut_10 : decode cX9_shut 10 = .ok (.ifCond .ne 6, 3) := by decide +kernel
theorem dX9_shut_13 : decode cX9_shut 13 = .ok (.bipush (-5), 2) := by decide +kernel
theorem dX9_shut_15 : decode cX9_shut 15 = .ok (.ireturn, 1) := by decide +kernel
theorem dX9_shut_16 : decode cX9_shut 16 = .ok (.aload_n 0, 1) := by decide +kernel
theorem dX9_shut_17 : decode cX9_shut 17 = .ok (.getfield 10, 3) := by decide +kernel
theorem dX9_shut_20 : decode cX9_shut 20 = .ok (.getfield 59, 3) := by decide +kernel
theorem dX9_shut_23 : decode cX9_shut 23 = .ok (.iconst 0, 1) := by decide +kernel
theorem dX9_shut_24 : decode cX9_shut 24 = .ok (.putfield 63, 3) := by decide +kernel
theorem dX9_shut_27 : decode cX9_shut 27 = .ok (.aload_n 0, 1) := by decide +kernel
theorem dX9_shut_28 : decode cX9_shut 28 = .ok (.getfield 10, 3) := by decide +kernel
theorem dX9_shut_31 : decode cX9_shut 31 = .ok (.invokevirtual 160, 3) := by decide +kernel
theorem dX9_shut_34 : decode cX9_shut 34 = .ok (.l2i, 1) := by decide +kernel
theorem dX9_shut_35 : decode cX9_shut 35 = .ok (.ireturn, 1) := by decide +kernel
set_option maxRecDepth 20000 in
theorem ggX9_sell_X9_within : GoodIn wsX9_sell wsX9_within := goodIn_r _ [10] (by decide +kernel) (by decide +kernel)
set_option maxRecDepth 20000 in
theorem gX9_sell_X9_within : GoodIn wsX9_sell (va_wsS RX9 43 yX9_within wsX9_within) := goodIn_app (goodIn_of _ (by decide +kernel)) ggX9_sell_X9_within
set_option maxRecDepth 20000 in
theorem ggX9_sell_X2_iceOfAll : GoodIn wsX9_sell wsX2_iceOfAll := goodIn_r _ [15, 16, 17, 18, 60, 61, 62, 63, 64, 65] (by decide +kernel) (by decide +kernel)
set_option maxRecDepth 20000 in
theorem gX9_sell_X2_iceOfAll : GoodIn wsX9_sell (wsV RX9 165 RX2 yX2_iceOfAll wsX2_iceOfAll) := goodIn_app (goodIn_of _ (by decide +kernel)) ggX9_sell_X2_iceOfAll
set_option maxRecDepth 20000 in
theorem ggX9_sell_X2_takeFromFront : GoodIn wsX9_sell wsX2_takeFromFront := goodIn_r _ [22, 16, 17, 18, 23, 24, 25, 26, 27, 28, 29, 30, 31, 32, 33, 34, 35, 36, 60, 61, 62, 63, 64, 65] (by decide +kernel) (by decide +kernel)
set_option maxRecDepth 20000 in
theorem gX9_sell_X2_takeFromFront : GoodIn wsX9_sell (wsV RX9 172 RX2 yX2_takeFromFront wsX2_takeFromFront) := goodIn_app (goodIn_of _ (by decide +kernel)) ggX9_sell_X2_takeFromFront
theorem dX9_sell_0 : decode cX9_sell 0 = .ok (.iload_n 1, 1) := by decide +kernel
theorem dX9_sell_1 : decode cX9_sell 1 = .ok (.iconst 1, 1) := by decide +kernel
theorem dX9_sell_2 : decode cX9_sell 2 = .ok (.ldc 164, 2) := by decide +kernel
theorem dX9_sell_4 : decode cX9_sell 4 = .ok (.invokestatic 43, 3) := by decide +kernel
theorem dX9_sell_7 : decode cX9_sell 7 = .ok (.ifCond .ne 6, 3) := by decide +kernel
theorem dX9_sell_10 : decode cX9_sell 10 = .ok (.bipush (-2), 2) := by decide +kernel
theorem dX9_sell_12 : decode cX9_sell 12 = .ok (.ireturn, 1) := by decide +kernel
theorem dX9_sell_13 : decode cX9_sell 13 = .ok (.aload_n 0, 1) := by decide +kernel
theorem dX9_sell_14 : decode cX9_sell 14 = .ok (.getfield 10, 3) := by decide +kernel
theorem dX9_sell_17 : decode cX9_sell 17 = .ok (.getfield 59, 3) := by decide +kernel
theorem dX9_sell_20 : decode cX9_sell 20 = .ok (.getfield 63, 3) := by decide +kernel
theorem dX9_sell_23 : decode cX9_sell 23 = .ok (.ifCond .eq 17, 3) := by decide +kernel
theorem dX9_sell_26 : decode cX9_sell 26 = .ok (.iload_n 1, 1) := by decide +kernel
theorem dX9_sell_27 : decode cX9_sell 27 = .ok (.aload_n 0, 1) := by decide +kernel
theorem dX9_sell_28 : decode cX9_sell 28 = .ok (.getfield 10, 3) := by decide +kernel
theorem dX9_sell_31 : decode cX9_sell 31 = .ok (.getfield 49, 3) := by decide +kernel
theorem dX9_sell_34 : decode cX9_sell 34 = .ok (.invokevirtual 165, 3) := by decide +kernel
theorem dX9_sell_37 : decode cX9_sell 37 = .ok (.if_icmp .le 6, 3) := by decide +kernel
theorem dX9_sell_40 : decode cX9_sell 40 = .ok (.bipush (-5), 2) := by decide +kernel
theorem dX9_sell_42 : decode cX9_sell 42 = .ok (.ireturn, 1) := by decide +kernel
theorem dX9_sell_43 : decode cX9_sell 43 = .ok (.aload_n 0, 1) := by decide +kernel
theorem dX9_sell_44 : decode cX9_sell 44 = .ok (.getfield 10, 3) := by decide +kernel
theorem dX9_sell_47 : decode cX9_sell 47 = .ok (.dup, 1) := by decide +kernel
theorem dX9_sell_48 : decode cX9_sell 48 = .ok (.getfield 169, 3) := by decide +kernel
theorem dX9_sell_51 : decode cX9_sell 51 = .ok (.iload_n 1, 1) := by decide +kernel
theorem dX9_sell_52 : decode cX9_sell 52 = .ok (.i2l, 1) := by decide +kernel
theorem dX9_sell_53 : decode cX9_sell 53 = .ok (.ladd, 1) := by decide +kernel
theorem dX9_sell_54 : decode cX9_sell 54 = .ok (.putfield 169, 3) := by decide +kernel
theorem dX9_sell_57 : decode cX9_sell 57 = .ok (.aload_n 0, 1) := by decide +kernel
theorem dX9_sell_58 : decode cX9_sell 58 = .ok (.getfield 10, 3) := by decide +kernel
theorem dX9_sell_61 : decode cX9_sell 61 = .ok (.getfield 49, 3) := by decide +kernel
theorem dX9_sell_64 : decode cX9_sell 64 = .ok (.iload_n 1, 1) := by decide +kernel
theorem dX9_sell_65 : decode cX9_sell 65 = .ok (.invokevirtual 172, 3) := by decide +kernel
theorem dX9_sell_68 : decode cX9_sell 68 = .ok (.ireturn, 1) := by decide +kernel
set_option maxRecDepth 20000 in
theorem ggX9_spill_X2_boxAt : GoodIn wsX9_spill wsX2_boxAt := goodIn_r _ [10, 11, 12, 13, 14, 15, 37, 38] (by decide +kernel) (by decide +kernel)
set_option maxRecDepth 20000 in
theorem gX9_spill_X2_boxAt : GoodIn wsX9_spill (wsV RX9 77 RX2 yX2_boxAt wsX2_boxAt) := goodIn_app (goodIn_of _ (by decide +kernel)) ggX9_spill_X2_boxAt
set_option maxRecDepth 20000 in
theorem ggX9_spill_X9_within : GoodIn wsX9_spill wsX9_within := goodIn_r _ [15] (by decide +kernel) (by decide +kernel)
set_option maxRecDepth 20000 in
theorem gX9_spill_X9_within : GoodIn wsX9_spill (va_wsS RX9 43 yX9_within wsX9_within) := goodIn_app (goodIn_of _ (by decide +kernel)) ggX9_spill_X9_within
theorem dX9_spill_0 : decode cX9_spill 0 = .ok (.aload_n 0, 1) := by decide +kernel
theorem dX9_spill_1 : decode cX9_spill 1 = .ok (.getfield 10, 3) := by decide +kernel
theorem dX9_spill_4 : decode cX9_spill 4 = .ok (.getfield 49, 3) := by decide +kernel
theorem dX9_spill_7 : decode cX9_spill 7 = .ok (.iload_n 1, 1) := by decide +kernel
theorem dX9_spill_8 : decode cX9_spill 8 = .ok (.invokevirtual 77, 3) := by decide +kernel
theorem dX9_spill_11 : decode cX9_spill 11 = .ok (.astore_n 3, 1) := by decide +kernel
theorem dX9_spill_12 : decode cX9_spill 12 = .ok (.aload_n 3, 1) := by decide +kernel
theorem dX9_spill_13 : decode cX9_spill 13 = .ok (.ifnonnull 5, 3) := by decide +kernel
theorem dX9_spill_16 : decode cX9_spill 16 = .ok (.iconst (-1), 1) := by decide +kernel
theorem dX9_spill_17 : decode cX9_spill 17 = .ok (.ireturn, 1) := by decide +kernel
theorem dX9_spill_18 : decode cX9_spill 18 = .ok (.iload_n 2, 1) := by decide +kernel
theorem dX9_spill_19 : decode cX9_spill 19 = .ok (.iconst 1, 1) := by decide +kernel
theorem dX9_spill_20 : decode cX9_spill 20 = .ok (.ldc 48, 2) := by decide +kernel
theorem dX9_spill_22 : decode cX9_spill 22 = .ok (.invokestatic 43, 3) := by decide +kernel
theorem dX9_spill_25 : decode cX9_spill 25 = .ok (.ifCond .eq 11, 3) := by decide +kernel
theorem dX9_spill_28 : decode cX9_spill 28 = .ok (.iload_n 2, 1) := by decide +kernel
theorem dX9_spill_29 : decode cX9_spill 29 = .ok (.aload_n 3, 1) := by decide +kernel
theorem dX9_spill_30 : decode cX9_spill 30 = .ok (.getfield 81, 3) := by decide +kernel
theorem dX9_spill_33 : decode cX9_spill 33 = .ok (.if_icmp .le 6, 3) := by decide +kernel
theorem dX9_spill_36 : decode cX9_spill 36 = .ok (.bipush (-2), 2) := by decide +kernel
theorem dX9_spill_38 : decode cX9_spill 38 = .ok (.ireturn, 1) := by decide +kernel
theorem dX9_spill_39 : decode cX9_spill 39 = .ok (.aload_n 3, 1) := by decide +kernel
theorem dX9_spill_40 : decode cX9_spill 40 = .ok (.dup, 1) := by decide +kernel
theorem dX9_spill_41 : decode cX9_spill 41 = .ok (.getfield 81, 3) := by decide +kernel
theorem dX9_spill_44 : decode cX9_spill 44 = .ok (.iload_n 2, 1) := by decide +kernel
theorem dX9_spill_45 : decode cX9_spill 45 = .ok (.isub, 1) := by decide +kernel
theorem dX9_spill_46 : decode cX9_spill 46 = .ok (.putfield 81, 3) := by decide +kernel
theorem dX9_spill_49 : decode cX9_spill 49 = .ok (.aload_n 0, 1) := by decide +kernel
theorem dX9_spill_50 : decode cX9_spill 50 = .ok (.getfield 10, 3) := by decide +kernel
theorem dX9_spill_53 : decode cX9_spill 53 = .ok (.dup, 1) := by decide +kernel
theorem dX9_spill_54 : decode cX9_spill 54 = .ok (.getfield 176, 3) := by decide +kernel
theorem dX9_spill_57 : decode cX9_spill 57 = .ok (.iload_n 2, 1) := by decide +kernel
theorem dX9_spill_58 : decode cX9_spill 58 = .ok (.i2l, 1) := by decide +kernel
theorem dX9_spill_59 : decode cX9_spill 59 = .ok (.ladd, 1) := by decide +kernel
theorem dX9_spill_60 : decode cX9_spill 60 = .ok (.putfield 176, 3) := by decide +kernel
theorem dX9_spill_63 : decode cX9_spill 63 = .ok (.aload_n 3, 1) := by decide +kernel
theorem dX9_spill_64 : decode cX9_spill 64 = .ok (.getfield 81, 3) := by decide +kernel
theorem dX9_spill_67 : decode cX9_spill 67 = .ok (.ireturn, 1) := by decide +kernel
set_option maxRecDepth 20000 in
theorem ggX9_weigh_X2_boxAt : GoodIn wsX9_weigh wsX2_boxAt := goodIn_r _ [10, 11, 12, 13, 14, 15, 42, 43] (by decide +kernel) (by decide +kernel)
set_option maxRecDepth 20000 in
theorem gX9_weigh_X2_boxAt : GoodIn wsX9_weigh (wsV RX9 77 RX2 yX2_boxAt wsX2_boxAt) := goodIn_app (goodIn_of _ (by decide +kernel)) ggX9_weigh_X2_boxAt
set_option maxRecDepth 20000 in
theorem ggX9_weigh_X4_isOnTheWay : GoodIn wsX9_weigh wsX4_isOnTheWay := goodIn_r _ [20, 21, 44, 45, 46, 47, 48] (by decide +kernel) (by decide +kernel)
set_option maxRecDepth 20000 in
theorem gX9_weigh_X4_isOnTheWay : GoodIn wsX9_weigh (wsV RX9 124 RX4 yX4_isOnTheWay wsX4_isOnTheWay) := goodIn_app (goodIn_of _ (by decide +kernel)) ggX9_weigh_X4_isOnTheWay
theorem dX9_weigh_0 : decode cX9_weigh 0 = .ok (.aload_n 0, 1) := by decide +kernel
theorem dX9_weigh_1 : decode cX9_weigh 1 = .ok (.getfield 10, 3) := by decide +kernel
theorem dX9_weigh_4 : decode cX9_weigh 4 = .ok (.getfield 49, 3) := by decide +kernel
theorem dX9_weigh_7 : decode cX9_weigh 7 = .ok (.iload_n 1, 1) := by decide +kernel
theorem dX9_weigh_8 : decode cX9_weigh 8 = .ok (.invokevirtual 77, 3) := by decide +kernel
theorem dX9_weigh_11 : decode cX9_weigh 11 = .ok (.astore_n 2, 1) := by decide +kernel
theorem dX9_weigh_12 : decode cX9_weigh 12 = .ok (.aload_n 2, 1) := by decide +kernel
theorem dX9_weigh_13 : decode cX9_weigh 13 = .ok (.ifnonnull 5, 3) := by decide +kernel
theorem dX9_weigh_16 : decode cX9_weigh 16 = .ok (.iconst (-1), 1) := by decide +kernel
theorem dX9_weigh_17 : decode cX9_weigh 17 = .ok (.ireturn, 1) := by decide +kernel
theorem dX9_weigh_18 : decode cX9_weigh 18 = .ok (.aload_n 0, 1) := by decide +kernel
theorem dX9_weigh_19 : decode cX9_weigh 19 = .ok (.getfield 10, 3) := by decide +kernel
theorem dX9_weigh_22 : decode cX9_weigh 22 = .ok (.getfield 111, 3) := by decide +kernel
theorem dX9_weigh_25 : decode cX9_weigh 25 = .ok (.invokevirtual 124, 3) := by decide +kernel
theorem dX9_weigh_28 : decode cX9_weigh 28 = .ok (.ifCond .eq 8, 3) := by decide +kernel
theorem dX9_weigh_31 : decode cX9_weigh 31 = .ok (.bipush (-5), 2) := by decide +kernel
theorem dX9_weigh_33 : decode cX9_weigh 33 = .ok (.goto 12, 3) := by decide +kernel
theorem dX9_weigh_36 : decode cX9_weigh 36 = .ok (.aload_n 2, 1) := by decide +kernel
theorem dX9_weigh_37 : decode cX9_weigh 37 = .ok (.getfield 179, 3) := by decide +kernel
theorem dX9_weigh_40 : decode cX9_weigh 40 = .ok (.aload_n 2, 1) := by decide +kernel
theorem dX9_weigh_41 : decode cX9_weigh 41 = .ok (.getfield 81, 3) := by decide +kernel
theorem dX9_weigh_44 : decode cX9_weigh 44 = .ok (.iadd, 1) := by decide +kernel
theorem dX9_weigh_45 : decode cX9_weigh 45 = .ok (.ireturn, 1) := by decide +kernel
set_option maxRecDepth 20000 in
theorem ggX9_check_X2_boxAt : GoodIn wsX9_check wsX2_boxAt := goodIn_r _ [12, 13, 14, 15, 16, 17, 44, 45] (by decide +kernel) (by decide +kernel)
set_option maxRecDepth 20000 in
theorem gX9_check_X2_boxAt : GoodIn wsX9_check (wsV RX9 77 RX2 yX2_boxAt wsX2_boxAt) := goodIn_app (goodIn_of _ (by decide +kernel)) ggX9_check_X2_boxAt
set_option maxRecDepth 20000 in
theorem ggX9_check_X4_isOnTheWay : GoodIn wsX9_check wsX4_isOnTheWay := goodIn_r _ [22, 23, 46, 47, 48, 49, 50] (by decide +kernel) (by decide +kernel)
set_option maxRecDepth 20000 in
theorem gX9_check_X4_isOnTheWay : GoodIn wsX9_check (wsV RX9 124 RX4 yX4_isOnTheWay wsX4_isOnTheWay) := goodIn_app (goodIn_of _ (by decide +kernel)) ggX9_check_X4_isOnTheWay
theorem dX9_check_0 : decode cX9_check 0 = .ok (.aload_n 0, 1) := by decide +kernel
theorem dX9_check_1 : decode cX9_check 1 = .ok (.getfield 10, 3) := by decide +kernel
theorem dX9_check_4 : decode cX9_check 4 = .ok (.getfield 49, 3) := by decide +kernel
theorem dX9_check_7 : decode cX9_check 7 = .ok (.iload_n 1, 1) := by decide +kernel
theorem dX9_check_8 : decode cX9_check 8 = .ok (.invokevirtual 77, 3) := by decide +kernel
theorem dX9_check_11 : decode cX9_check 11 = .ok (.astore_n 2, 1) := by decide +kernel
theorem dX9_check_12 : decode cX9_check 12 = .ok (.aload_n 2, 1) := by decide +kernel
theorem dX9_check_13 : decode cX9_check 13 = .ok (.ifnonnull 6, 3) := by decide +kernel
theorem dX9_check_16 : decode cX9_check 16 = .ok (.ldc 182, 2) := by decide +kernel
theorem dX9_check_18 : decode cX9_check 18 = .ok (.ireturn, 1) := by decide +kernel
theorem dX9_check_19 : decode cX9_check 19 = .ok (.aload_n 0, 1) := by decide +kernel
theorem dX9_check_20 : decode cX9_check 20 = .ok (.getfield 10, 3) := by decide +kernel
theorem dX9_check_23 : decode cX9_check 23 = .ok (.getfield 111, 3) := by decide +kernel
theorem dX9_check_26 : decode cX9_check 26 = .ok (.invokevirtual 124, 3) := by decide +kernel
theorem dX9_check_29 : decode cX9_check 29 = .ok (.ifCond .eq 6, 3) := by decide +kernel
theorem dX9_check_32 : decode cX9_check 32 = .ok (.ldc 183, 2) := by decide +kernel
theorem dX9_check_34 : decode cX9_check 34 = .ok (.ireturn, 1) := by decide +kernel
theorem dX9_check_35 : decode cX9_check 35 = .ok (.aload_n 2, 1) := by decide +kernel
theorem dX9_check_36 : decode cX9_check 36 = .ok (.getfield 184, 3) := by decide +kernel
theorem dX9_check_39 : decode cX9_check 39 = .ok (.aload_n 2, 1) := by decide +kernel
theorem dX9_check_40 : decode cX9_check 40 = .ok (.getfield 81, 3) := by decide +kernel
theorem dX9_check_43 : decode cX9_check 43 = .ok (.isub, 1) := by decide +kernel
theorem dX9_check_44 : decode cX9_check 44 = .ok (.istore_n 3, 1) := by decide +kernel
theorem dX9_check_45 : decode cX9_check 45 = .ok (.aload_n 2, 1) := by decide +kernel
theorem dX9_check_46 : decode cX9_check 46 = .ok (.aload_n 2, 1) := by decide +kernel
theorem dX9_check_47 : decode cX9_check 47 = .ok (.getfield 81, 3) := by decide +kernel
theorem dX9_check_50 : decode cX9_check 50 = .ok (.putfield 184, 3) := by decide +kernel
theorem dX9_check_53 : decode cX9_check 53 = .ok (.iload_n 3, 1) := by decide +kernel
theorem dX9_check_54 : decode cX9_check 54 = .ok (.ireturn, 1) := by decide +kernel
set_option maxRecDepth 20000 in
theorem ggX9_box_X2_boxAt : GoodIn wsX9_box wsX2_boxAt := goodIn_r _ [14, 15, 16, 17, 18, 19, 70, 71] (by decide +kernel) (by decide +kernel)
set_option maxRecDepth 20000 in
theorem gX9_box_X2_boxAt : GoodIn wsX9_box (wsV RX9 77 RX2 yX2_boxAt wsX2_boxAt) := goodIn_app (goodIn_of _ (by decide +kernel)) ggX9_box_X2_boxAt
set_option maxRecDepth 20000 in
theorem ggX9_box_X6_value : GoodIn wsX9_box wsX6_value := goodIn_r _ [24, 25, 17, 18, 19, 72] (by decide +kernel) (by decide +kernel)
set_option maxRecDepth 20000 in
theorem gX9_box_X6_value : GoodIn wsX9_box (wsV RX9 193 RX6 yX6_value wsX6_value) := goodIn_app (goodIn_of _ (by decide +kernel)) ggX9_box_X6_value
set_option maxRecDepth 20000 in
theorem ggX9_box_X0_goingOff : GoodIn wsX9_box wsX0_goingOff := goodIn_r _ [30, 31, 32, 33, 34, 35, 36, 37, 38, 39, 40, 41, 18, 42, 59, 60, 61, 62] (by decide +kernel) (by decide +kernel)
set_option maxRecDepth 20000 in
theorem gX9_box_X0_goingOff : GoodIn wsX9_box (wsV RX9 196 RX0 yX0_goingOff wsX0_goingOff) := goodIn_app (goodIn_of _ (by decide +kernel)) ggX9_box_X0_goingOff
theorem dX9_box_0 : decode cX9_box 0 = .ok (.aload_n 0, 1) := by decide +kernel
theorem dX9_box_1 : decode cX9_box 1 = .ok (.getfield 10, 3) := by decide +kernel
theorem dX9_box_4 : decode cX9_box 4 = .ok (.getfield 49, 3) := by decide +kernel
theorem dX9_box_7 : decode cX9_box 7 = .ok (.iload_n 1, 1) := by decide +kernel
theorem dX9_box_8 : decode cX9_box 8 = .ok (.invokevirtual 77, 3) := by decide +kernel
theorem dX9_box_11 : decode cX9_box 11 = .ok (.astore_n 3, 1) := by decide +kernel
theorem dX9_box_12 : decode cX9_box 12 = .ok (.aload_n 3, 1) := by decide +kernel
theorem dX9_box_13 : decode cX9_box 13 = .ok (.ifnonnull 5, 3) := by decide +kernel
theorem dX9_box_16 : decode cX9_box 16 = .ok (.iconst (-1), 1) := by decide +kernel
theorem dX9_box_17 : decode cX9_box 17 = .ok (.ireturn, 1) := by decide +kernel
theorem dX9_box_18 : decode cX9_box 18 = .ok (.iload_n 2, 1) := by decide +kernel
theorem dX9_box_19 : decode cX9_box 19 = .ok (.tableswitch 79 0 4 #[33, 38, 43, 48, 53], 33) := by decide +kernel
theorem dX9_box_52 : decode cX9_box 52 = .ok (.aload_n 3, 1) := by decide +kernel
theorem dX9_box_53 : decode cX9_box 53 = .ok (.getfield 187, 3) := by decide +kernel
theorem dX9_box_56 : decode cX9_box 56 = .ok (.ireturn, 1) := by decide +kernel
theorem dX9_box_57 : decode cX9_box 57 = .ok (.aload_n 3, 1) := by decide +kernel
theorem dX9_box_58 : decode cX9_box 58 = .ok (.getfield 179, 3) := by decide +kernel
theorem dX9_box_61 : decode cX9_box 61 = .ok (.ireturn, 1) := by decide +kernel
theorem dX9_box_62 : decode cX9_box 62 = .ok (.aload_n 3, 1) := by decide +kernel
theorem dX9_box_63 : decode cX9_box 63 = .ok (.getfield 81, 3) := by decide +kernel
theorem dX9_box_66 : decode cX9_box 66 = .ok (.ireturn, 1) := by decide +kernel
theorem dX9_box_67 : decode cX9_box 67 = .ok (.aload_n 3, 1) := by decide +kernel
theorem dX9_box_68 : decode cX9_box 68 = .ok (.getfield 184, 3) := by decide +kernel
theorem dX9_box_71 : decode cX9_box 71 = .ok (.ireturn, 1) := by decide +kernel
theorem dX9_box_72 : decode cX9_box 72 = .ok (.aload_n 3, 1) := by decide +kernel
theorem dX9_box_73 : decode cX9_box 73 = .ok (.aload_n 0, 1) := by decide +kernel
theorem dX9_box_74 : decode cX9_box 74 = .ok (.getfield 10, 3) := by decide +kernel
theorem dX9_box_77 : decode cX9_box 77 = .ok (.getfield 59, 3) := by decide +kernel
theorem dX9_box_80 : decode cX9_box 80 = .ok (.getfield 190, 3) := by decide +kernel
theorem dX9_box_83 : decode cX9_box 83 = .ok (.aload_n 0, 1) := by decide +kernel
theorem dX9_box_84 : decode cX9_box 84 = .ok (.getfield 10, 3) := by decide +kernel
theorem dX9_box_87 : decode cX9_box 87 = .ok (.getfield 97, 3) := by decide +kernel
theorem dX9_box_90 : decode cX9_box 90 = .ok (.iconst 0, 1) := by decide +kernel
theorem dX9_box_91 : decode cX9_box 91 = .ok (.invokevirtual 193, 3) := by decide +kernel
theorem dX9_box_94 : decode cX9_box 94 = .ok (.invokevirtual 196, 3) := by decide +kernel
theorem dX9_box_97 : decode cX9_box 97 = .ok (.ireturn, 1) := by decide +kernel
theorem dX9_box_98 : decode cX9_box 98 = .ok (.bipush (-2), 2) := by decide +kernel
theorem dX9_box_100 : decode cX9_box 100 = .ok (.ireturn, 1) := by decide +kernel
set_option maxRecDepth 20000 in
theorem ggX9_van_X9_within : GoodIn wsX9_van wsX9_within := goodIn_r _ [25] (by decide +kernel) (by decide +kernel)
set_option maxRecDepth 20000 in
theorem gX9_van_X9_within : GoodIn wsX9_van (va_wsS RX9 43 yX9_within wsX9_within) := goodIn_app (goodIn_of _ (by decide +kernel)) ggX9_van_X9_within
set_option maxRecDepth 20000 in
theorem ggX9_van_X6_value : GoodIn wsX9_van wsX6_value := goodIn_r _ [30, 31, 23, 24, 25, 93] (by decide +kernel) (by decide +kernel)
set_option maxRecDepth 20000 in
theorem gX9_van_X6_value : GoodIn wsX9_van (wsV RX9 193 RX6 yX6_value wsX6_value) := goodIn_app (goodIn_of _ (by decide +kernel)) ggX9_van_X6_value
set_option maxRecDepth 20000 in
theorem ggX9_van_X4_outsideNow : GoodIn wsX9_van wsX4_outsideNow := goodIn_r _ [36, 37, 38, 39, 40, 41, 35, 42, 43, 23, 24, 25, 84, 85, 86, 87, 88] (by decide +kernel) (by decide +kernel)
set_option maxRecDepth 20000 in
theorem gX9_van_X4_outsideNow : GoodIn wsX9_van (wsV RX9 200 RX4 yX4_outsideNow wsX4_outsideNow) := goodIn_app (goodIn_of _ (by decide +kernel)) ggX9_van_X4_outsideNow
set_option maxRecDepth 20000 in
theorem ggX9_van_X8_concentration : GoodIn wsX9_van wsX8_concentration := goodIn_r _ [48, 49, 50, 51, 52, 53, 54, 55, 56, 57, 58, 27, 28, 29, 30, 31, 23, 24, 25, 59, 60, 67, 68, 69, 70, 71, 72, 73, 74, 75, 76, 77, 78, 79, 80, 81, 82, 83, 93] (by decide +kernel) (by decide +kernel)
set_option maxRecDepth 20000 in
theorem gX9_van_X8_concentration : GoodIn wsX9_van (wsV RX9 160 RX8 yX8_concentration wsX8_concentration) := goodIn_app (goodIn_of _ (by decide +kernel)) ggX9_van_X8_concentration
theorem dX9_van_0 : decode cX9_van 0 = .ok (.iload_n 1, 1) := by decide +kernel
theorem dX9_van_1 : decode cX9_van 1 = .ok (.iconst 0, 1) := by decide +kernel
theorem dX9_van_2 : decode cX9_van 2 = .ok (.bipush 25, 2) := by decide +kernel
theorem dX9_van_4 : decode cX9_van 4 = .ok (.invokestatic 43, 3) := by decide +kernel
theorem dX9_van_7 : decode cX9_van 7 = .ok (.ifCond .ne 6, 3) := by decide +kernel
theorem dX9_van_10 : decode cX9_van 10 = .ok (.ldc 199, 2) := by decide +kernel
theorem dX9_van_12 : decode cX9_van 12 = .ok (.ireturn, 1) := by decide +kernel
theorem dX9_van_13 : decode cX9_van 13 = .ok (.iload_n 1, 1) := by decide +kernel
theorem dX9_van_14 : decode cX9_van 14 = .ok (.bipush 15, 2) := by decide +kernel
theorem dX9_van_16 : decode cX9_van 16 = .ok (.if_icmp .lt 18, 3) := by decide +kernel
theorem dX9_van_19 : decode cX9_van 19 = .ok (.aload_n 0, 1) := by decide +kernel
theorem dX9_van_20 : decode cX9_van 20 = .ok (.getfield 10, 3) := by decide +kernel
theorem dX9_van_23 : decode cX9_van 23 = .ok (.getfield 97, 3) := by decide +kernel
theorem dX9_van_26 : decode cX9_van 26 = .ok (.iload_n 1, 1) := by decide +kernel
theorem dX9_van_27 : decode cX9_van 27 = .ok (.bipush 15, 2) := by decide +kernel
theorem dX9_van_29 : decode cX9_van 29 = .ok (.isub, 1) := by decide +kernel
theorem dX9_van_30 : decode cX9_van 30 = .ok (.invokevirtual 193, 3) := by decide +kernel
theorem dX9_van_33 : decode cX9_van 33 = .ok (.ireturn, 1) := by decide +kernel
theorem dX9_van_34 : decode cX9_van 34 = .ok (.iload_n 1, 1) := by decide +kernel
theorem dX9_van_35 : decode cX9_van 35 = .ok (.tableswitch 253 0 13 #[69, 77, 88, 99, 111, 120, 131, 150, 161, 180, 209, 220, 231, 242], 69) := by decide +kernel
theorem dX9_van_104 : decode cX9_van 104 = .ok (.aload_n 0, 1) := by decide +kernel
theorem dX9_van_105 : decode cX9_van 105 = .ok (.getfield 10, 3) := by decide +kernel
theorem dX9_van_108 : decode cX9_van 108 = .ok (.getfield 133, 3) := by decide +kernel
theorem dX9_van_111 : decode cX9_van 111 = .ok (.ireturn, 1) := by decide +kernel
theorem dX9_van_112 : decode cX9_van 112 = .ok (.aload_n 0, 1) := by decide +kernel
theorem dX9_van_113 : decode cX9_van 113 = .ok (.getfield 10, 3) := by decide +kernel
theorem dX9_van_116 : decode cX9_van 116 = .ok (.getfield 59, 3) := by decide +kernel
theorem dX9_van_119 : decode cX9_van 119 = .ok (.getfield 190, 3) := by decide +kernel
theorem dX9_van_122 : decode cX9_van 122 = .ok (.ireturn, 1) := by decide +kernel
theorem dX9_van_123 : decode cX9_van 123 = .ok (.aload_n 0, 1) := by decide +kernel
theorem dX9_van_124 : decode cX9_van 124 = .ok (.getfield 10, 3) := by decide +kernel
theorem dX9_van_127 : decode cX9_van 127 = .ok (.getfield 111, 3) := by decide +kernel
theorem dX9_van_130 : decode cX9_van 130 = .ok (.invokevirtual 200, 3) := by decide +kernel
theorem dX9_van_133 : decode cX9_van 133 = .ok (.ireturn, 1) := by decide +kernel
theorem dX9_van_134 : decode cX9_van 134 = .ok (.aload_n 0, 1) := by decide +kernel
theorem dX9_van_135 : decode cX9_van 135 = .ok (.getfield 10, 3) := by decide +kernel
theorem dX9_van_138 : decode cX9_van 138 = .ok (.getfield 59, 3) := by decide +kernel
theorem dX9_van_141 : decode cX9_van 141 = .ok (.getfield 203, 3) := by decide +kernel
theorem dX9_van_144 : decode cX9_van 144 = .ok (.l2i, 1) := by decide +kernel
theorem dX9_van_145 : decode cX9_van 145 = .ok (.ireturn, 1) := by decide +kernel
theorem dX9_van_146 : decode cX9_van 146 = .ok (.aload_n 0, 1) := by decide +kernel
theorem dX9_van_147 : decode cX9_van 147 = .ok (.getfield 10, 3) := by decide +kernel
theorem dX9_van_150 : decode cX9_van 150 = .ok (.invokevirtual 160, 3) := by decide +kernel
theorem dX9_van_153 : decode cX9_van 153 = .ok (.l2i, 1) := by decide +kernel
theorem dX9_van_154 : decode cX9_van 154 = .ok (.ireturn, 1) := by decide +kernel
theorem dX9_van_155 : decode cX9_van 155 = .ok (.aload_n 0, 1) := by decide +kernel
theorem dX9_van_156 : decode cX9_van 156 = .ok (.getfield 10, 3) := by decide +kernel
theorem dX9_van_159 : decode cX9_van 159 = .ok (.getfield 59, 3) := by decide +kernel
theorem dX9_van_162 : decode cX9_van 162 = .ok (.getfield 148, 3) := by decide +kernel
theorem dX9_van_165 : decode cX9_van 165 = .ok (.ireturn, 1) := by decide +kernel
theorem dX9_van_166 : decode cX9_van 166 = .ok (.aload_n 0, 1) := by decide +kernel
theorem dX9_van_167 : decode cX9_van 167 = .ok (.getfield 10, 3) := by decide +kernel
theorem dX9_van_170 : decode cX9_van 170 = .ok (.getfield 59, 3) := by decide +kernel
theorem dX9_van_173 : decode cX9_van 173 = .ok (.getfield 206, 3) := by decide +kernel
theorem dX9_van_176 : decode cX9_van 176 = .ok (.ifCond .eq 7, 3) := by decide +kernel
theorem dX9_van_179 : decode cX9_van 179 = .ok (.iconst 1, 1) := by decide +kernel
theorem dX9_van_180 : decode cX9_van 180 = .ok (.goto 4, 3) := by decide +kernel
theorem dX9_van_183 : decode cX9_van 183 = .ok (.iconst 0, 1) := by decide +kernel
theorem dX9_van_184 : decode cX9_van 184 = .ok (.ireturn, 1) := by decide +kernel
theorem dX9_van_185 : decode cX9_van 185 = .ok (.aload_n 0, 1) := by decide +kernel
theorem dX9_van_186 : decode cX9_van 186 = .ok (.getfield 10, 3) := by decide +kernel
theorem dX9_van_189 : decode cX9_van 189 = .ok (.getfield 59, 3) := by decide +kernel
theorem dX9_van_192 : decode cX9_van 192 = .ok (.getfield 209, 3) := by decide +kernel
theorem dX9_van_195 : decode cX9_van 195 = .ok (.ireturn, 1) := by decide +kernel
theorem dX9_van_196 : decode cX9_van 196 = .ok (.aload_n 0, 1) := by decide +kernel
theorem dX9_van_197 : decode cX9_van 197 = .ok (.getfield 10, 3) := by decide +kernel
theorem dX9_van_200 : decode cX9_van 200 = .ok (.getfield 59, 3) := by decide +kernel
theorem dX9_van_203 : decode cX9_van 203 = .ok (.getfield 63, 3) := by decide +kernel
theorem dX9_van_206 : decode cX9_van 206 = .ok (.ifCond .eq 7, 3) := by decide +kernel
theorem dX9_van_209 : decode cX9_van 209 = .ok (.iconst 1, 1) := by decide +kernel
theorem dX9_van_210 : decode cX9_van 210 = .ok (.goto 4, 3) := by decide +kernel
theorem dX9_van_213 : decode cX9_van 213 = .ok (.iconst 0, 1) := by decide +kernel
theorem dX9_van_214 : decode cX9_van 214 = .ok (.ireturn, 1) := by decide +kernel
theorem dX9_van_215 : decode cX9_van 215 = .ok (.aload_n 0, 1) := by decide +kernel
theorem dX9_van_216 : decode cX9_van 216 = .ok (.getfield 10, 3) := by decide +kernel
theorem dX9_van_219 : decode cX9_van 219 = .ok (.getfield 111, 3) := by decide +kernel
theorem dX9_van_222 : decode cX9_van 222 = .ok (.getfield 130, 3) := by decide +kernel
theorem dX9_van_225 : decode cX9_van 225 = .ok (.ifCond .ge 8, 3) := by decide +kernel
theorem dX9_van_228 : decode cX9_van 228 = .ok (.ldc 212, 2) := by decide +kernel
theorem dX9_van_230 : decode cX9_van 230 = .ok (.goto 13, 3) := by decide +kernel
theorem dX9_van_233 : decode cX9_van 233 = .ok (.aload_n 0, 1) := by decide +kernel
theorem dX9_van_234 : decode cX9_van 234 = .ok (.getfield 10, 3) := by decide +kernel
theorem dX9_van_237 : decode cX9_van 237 = .ok (.getfield 111, 3) := by decide +kernel
theorem dX9_van_240 : decode cX9_van 240 = .ok (.getfield 130, 3) := by decide +kernel
theorem dX9_van_243 : decode cX9_van 243 = .ok (.ireturn, 1) := by decide +kernel
theorem dX9_van_244 : decode cX9_van 244 = .ok (.aload_n 0, 1) := by decide +kernel
theorem dX9_van_245 : decode cX9_van 245 = .ok (.getfield 10, 3) := by decide +kernel
theorem dX9_van_248 : decode cX9_van 248 = .ok (.getfield 111, 3) := by decide +kernel
theorem dX9_van_251 : decode cX9_van 251 = .ok (.getfield 137, 3) := by decide +kernel
theorem dX9_van_254 : decode cX9_van 254 = .ok (.ireturn, 1) := by decide +kernel
theorem dX9_van_255 : decode cX9_van 255 = .ok (.aload_n 0, 1) := by decide +kernel
theorem dX9_van_256 : decode cX9_van 256 = .ok (.getfield 10, 3) := by decide +kernel
theorem dX9_van_259 : decode cX9_van 259 = .ok (.getfield 59, 3) := by decide +kernel
theorem dX9_van_262 : decode cX9_van 262 = .ok (.getfield 213, 3) := by decide +kernel
theorem dX9_van_265 : decode cX9_van 265 = .ok (.ireturn, 1) := by decide +kernel
theorem dX9_van_266 : decode cX9_van 266 = .ok (.aload_n 0, 1) := by decide +kernel
theorem dX9_van_267 : decode cX9_van 267 = .ok (.getfield 10, 3) := by decide +kernel
theorem dX9_van_270 : decode cX9_van 270 = .ok (.getfield 49, 3) := by decide +kernel
theorem dX9_van_273 : decode cX9_van 273 = .ok (.getfield 53, 3) := by decide +kernel
theorem dX9_van_276 : decode cX9_van 276 = .ok (.ireturn, 1) := by decide +kernel
theorem dX9_van_277 : decode cX9_van 277 = .ok (.aload_n 0, 1) := by decide +kernel
theorem dX9_van_278 : decode cX9_van 278 = .ok (.getfield 10, 3) := by decide +kernel
theorem dX9_van_281 : decode cX9_van 281 = .ok (.getfield 111, 3) := by decide +kernel
theorem dX9_van_284 : decode cX9_van 284 = .ok (.getfield 115, 3) := by decide +kernel
theorem dX9_van_287 : decode cX9_van 287 = .ok (.ireturn, 1) := by decide +kernel
theorem dX9_van_288 : decode cX9_van 288 = .ok (.aload_n 0, 1) := by decide +kernel
theorem dX9_van_289 : decode cX9_van 289 = .ok (.getfield 32, 3) := by decide +kernel
theorem dX9_van_292 : decode cX9_van 292 = .ok (.getfield 216, 3) := by decide +kernel
theorem dX9_van_295 : decode cX9_van 295 = .ok (.ireturn, 1) := by decide +kernel
set_option maxRecDepth 20000 in
theorem ggX9_way_X4_hasLeg : GoodIn wsX9_way wsX4_hasLeg := goodIn_r _ [9, 10, 11, 12, 13, 41, 42, 43, 44, 45] (by decide +kernel) (by decide +kernel)
set_option maxRecDepth 20000 in
theorem gX9_way_X4_hasLeg : GoodIn wsX9_way (wsV RX9 219 RX4 yX4_hasLeg wsX4_hasLeg) := goodIn_app (goodIn_of _ (by decide +kernel)) ggX9_way_X4_hasLeg
set_option maxRecDepth 20000 in
theorem ggX9_way_X4_durationOf : GoodIn wsX9_way wsX4_durationOf := goodIn_r _ [17, 18, 19, 6, 7, 8, 9, 10, 11, 12, 13, 41, 42, 43, 44, 45] (by decide +kernel) (by decide +kernel)
set_option maxRecDepth 20000 in
theorem gX9_way_X4_durationOf : GoodIn wsX9_way (wsV RX9 223 RX4 yX4_durationOf wsX4_durationOf) := goodIn_app (goodIn_of _ (by decide +kernel)) ggX9_way_X4_durationOf
set_option maxRecDepth 20000 in
theorem ggX9_way_X4_outsideOf : GoodIn wsX9_way wsX4_outsideOf := goodIn_r _ [23, 24, 19, 6, 7, 8, 9, 10, 11, 12, 13, 41, 42, 43, 44, 45] (by decide +kernel) (by decide +kernel)
set_option maxRecDepth 20000 in
theorem gX9_way_X4_outsideOf : GoodIn wsX9_way (wsV RX9 226 RX4 yX4_outsideOf wsX4_outsideOf) := goodIn_app (goodIn_of _ (by decide +kernel)) ggX9_way_X4_outsideOf
theorem dX9_way_0 : decode cX9_way 0 = .ok (.aload_n 0, 1) := by decide +kernel
theorem dX9_way_1 : decode cX9_way 1 = .ok (.getfield 10, 3) := by decide +kernel
theorem dX9_way_4 : decode cX9_way 4 = .ok (.getfield 111, 3) := by decide +kernel
theorem dX9_way_7 : decode cX9_way 7 = .ok (.iload_n 1, 1) := by decide +kernel
theorem dX9_way_8 : decode cX9_way 8 = .ok (.invokevirtual 219, 3) := by decide +kernel
theorem dX9_way_11 : decode cX9_way 11 = .ok (.ifCond .ne 6, 3) := by decide +kernel
theorem dX9_way_14 : decode cX9_way 14 = .ok (.ldc 182, 2) := by decide +kernel
theorem dX9_way_16 : decode cX9_way 16 = .ok (.ireturn, 1) := by decide +kernel
theorem dX9_way_17 : decode cX9_way 17 = .ok (.iload_n 2, 1) := by decide +kernel
theorem dX9_way_18 : decode cX9_way 18 = .ok (.lookupswitch 50 #[(0, 26), (1, 38)], 26) := by decide +kernel
theorem dX9_way_44 : decode cX9_way 44 = .ok (.aload_n 0, 1) := by decide +kernel
theorem dX9_way_45 : decode cX9_way 45 = .ok (.getfield 10, 3) := by decide +kernel
theorem dX9_way_48 : decode cX9_way 48 = .ok (.getfield 111, 3) := by decide +kernel
theorem dX9_way_51 : decode cX9_way 51 = .ok (.iload_n 1, 1) := by decide +kernel
theorem dX9_way_52 : decode cX9_way 52 = .ok (.invokevirtual 223, 3) := by decide +kernel
theorem dX9_way_55 : decode cX9_way 55 = .ok (.ireturn, 1) := by decide +kernel
theorem dX9_way_56 : decode cX9_way 56 = .ok (.aload_n 0, 1) := by decide +kernel
theorem dX9_way_57 : decode cX9_way 57 = .ok (.getfield 10, 3) := by decide +kernel
theorem dX9_way_60 : decode cX9_way 60 = .ok (.getfield 111, 3) := by decide +kernel
theorem dX9_way_63 : decode cX9_way 63 = .ok (.iload_n 1, 1) := by decide +kernel
theorem dX9_way_64 : decode cX9_way 64 = .ok (.invokevirtual 226, 3) := by decide +kernel
theorem dX9_way_67 : decode cX9_way 67 = .ok (.ireturn, 1) := by decide +kernel
theorem dX9_way_68 : decode cX9_way 68 = .ok (.ldc 199, 2) := by decide +kernel
theorem dX9_way_70 : decode cX9_way 70 = .ok (.ireturn, 1) := by decide +kernel
set_option maxRecDepth 20000 in
theorem ggX9_account_X2_iceOfAll : GoodIn wsX9_account wsX2_iceOfAll := goodIn_r _ [13, 14, 15, 16, 33, 34, 35, 36, 37, 38] (by decide +kernel) (by decide +kernel)
set_option maxRecDepth 20000 in
theorem gX9_account_X2_iceOfAll : GoodIn wsX9_account (wsV RX9 165 RX2 yX2_iceOfAll wsX2_iceOfAll) := goodIn_app (goodIn_of _ (by decide +kernel)) ggX9_account_X2_iceOfAll
theorem dX9_account_0 : decode cX9_account 0 = .ok (.iload_n 1, 1) := by decide +kernel
theorem dX9_account_1 : decode cX9_account 1 = .ok (.tableswitch 91 0 5 #[39, 51, 59, 67, 75, 83], 39) := by decide +kernel
theorem dX9_account_40 : decode cX9_account 40 = .ok (.aload_n 0, 1) := by decide +kernel
theorem dX9_account_41 : decode cX9_account 41 = .ok (.getfield 10, 3) := by decide +kernel
theorem dX9_account_44 : decode cX9_account 44 = .ok (.getfield 49, 3) := by decide +kernel
theorem dX9_account_47 : decode cX9_account 47 = .ok (.invokevirtual 165, 3) := by decide +kernel
theorem dX9_account_50 : decode cX9_account 50 = .ok (.i2l, 1) := by decide +kernel
theorem dX9_account_51 : decode cX9_account 51 = .ok (.lreturn, 1) := by decide +kernel
theorem dX9_account_52 : decode cX9_account 52 = .ok (.aload_n 0, 1) := by decide +kernel
theorem dX9_account_53 : decode cX9_account 53 = .ok (.getfield 10, 3) := by decide +kernel
theorem dX9_account_56 : decode cX9_account 56 = .ok (.getfield 73, 3) := by decide +kernel
theorem dX9_account_59 : decode cX9_account 59 = .ok (.lreturn, 1) := by decide +kernel
theorem dX9_account_60 : decode cX9_account 60 = .ok (.aload_n 0, 1) := by decide +kernel
theorem dX9_account_61 : decode cX9_account 61 = .ok (.getfield 10, 3) := by decide +kernel
theorem dX9_account_64 : decode cX9_account 64 = .ok (.getfield 90, 3) := by decide +kernel
theorem dX9_account_67 : decode cX9_account 67 = .ok (.lreturn, 1) := by decide +kernel
theorem dX9_account_68 : decode cX9_account 68 = .ok (.aload_n 0, 1) := by decide +kernel
theorem dX9_account_69 : decode cX9_account 69 = .ok (.getfield 10, 3) := by decide +kernel
theorem dX9_account_72 : decode cX9_account 72 = .ok (.getfield 229, 3) := by decide +kernel
theorem dX9_account_75 : decode cX9_account 75 = .ok (.lreturn, 1) := by decide +kernel
theorem dX9_account_76 : decode cX9_account 76 = .ok (.aload_n 0, 1) := by decide +kernel
theorem dX9_account_77 : decode cX9_account 77 = .ok (.getfield 10, 3) := by decide +kernel
theorem dX9_account_80 : decode cX9_account 80 = .ok (.getfield 169, 3) := by decide +kernel
theorem dX9_account_83 : decode cX9_account 83 = .ok (.lreturn, 1) := by decide +kernel
theorem dX9_account_84 : decode cX9_account 84 = .ok (.aload_n 0, 1) := by decide +kernel
theorem dX9_account_85 : decode cX9_account 85 = .ok (.getfield 10, 3) := by decide +kernel
theorem dX9_account_88 : decode cX9_account 88 = .ok (.getfield 176, 3) := by decide +kernel
theorem dX9_account_91 : decode cX9_account 91 = .ok (.lreturn, 1) := by decide +kernel
theorem dX9_account_92 : decode cX9_account 92 = .ok (.ldc2_w 232, 3) := by decide +kernel
theorem dX9_account_95 : decode cX9_account 95 = .ok (.lreturn, 1) := by decide +kernel
set_option maxRecDepth 20000 in
theorem ggX9_atEnd_X2_boxAt : GoodIn wsX9_atEnd wsX2_boxAt := goodIn_r _ [11, 12, 13, 14, 15, 16, 214, 215] (by decide +kernel) (by decide +kernel)
set_option maxRecDepth 20000 in
theorem gX9_atEnd_X2_boxAt : GoodIn wsX9_atEnd (wsV RX9 77 RX2 yX2_boxAt wsX2_boxAt) := goodIn_app (goodIn_of _ (by decide +kernel)) ggX9_atEnd_X2_boxAt
set_option maxRecDepth 20000 in
theorem ggX9_atEnd_X9_within : GoodIn wsX9_atEnd wsX9_within := goodIn_r _ [16] (by decide +kernel) (by decide +kernel)
set_option maxRecDepth 20000 in
theorem gX9_atEnd_X9_within : GoodIn wsX9_atEnd (va_wsS RX9 43 yX9_within wsX9_within) := goodIn_app (goodIn_of _ (by decide +kernel)) ggX9_atEnd_X9_within
set_option maxRecDepth 20000 in
theorem ggX9_atEnd_X8_becomeLike : GoodIn wsX9_atEnd wsX8_becomeLike := goodIn_r _ [22, 23, 24, 25, 26, 27, 28, 29, 30, 31, 32, 33, 34, 35, 36, 37, 38, 39, 40, 41, 42, 43, 44, 45, 10, 46, 12, 13, 47, 48, 49, 50, 51, 52, 53, 54, 55, 56, 57, 58, 59, 60, 61, 62, 63, 64, 65, 66, 67, 68, 69, 70, 71, 72, 73, 74, 75, 76, 77, 78, 193, 194, 195, 196, 197, 198, 199, 200, 201, 202, 216, 214, 215, 210, 211, 212, 213, 203, 204, 205, 206, 207, 208, 209, 217, 218, 219, 220, 221] (by decide +kernel) (by decide +kernel)
set_option maxRecDepth 20000 in
theorem gX9_atEnd_X8_becomeLike : GoodIn wsX9_atEnd (wsV RX9 234 RX8 yX8_becomeLike wsX8_becomeLike) := goodIn_app (goodIn_of _ (by decide +kernel)) ggX9_atEnd_X8_becomeLike
set_option maxRecDepth 20000 in
theorem ggX9_atEnd_X8_driveToEnd : GoodIn wsX9_atEnd wsX8_driveToEnd := goodIn_r _ [82, 26, 83, 84, 85, 86, 71, 87, 78, 88, 89, 90, 21, 91, 92, 93, 94, 95, 24, 25, 96, 23, 30, 27, 97, 98, 99, 36, 100, 38, 14, 15, 16, 101, 102, 103, 10, 104, 12, 13, 105, 106, 107, 50, 108, 109, 52, 110, 111, 112, 113, 54, 114, 115, 116, 117, 118, 119, 120, 121, 122, 55, 123, 124, 125, 126, 127, 128, 129, 77, 75, 130, 131, 132, 133, 76, 134, 135, 136, 59, 137, 62, 66, 67, 138, 139, 140, 141, 61, 64, 142, 143, 144, 145, 146, 147, 148, 149, 150, 151, 152, 153, 154, 155, 156, 157, 158, 159, 160, 63, 65, 161, 162, 163, 164, 165, 166, 167, 168, 169, 170, 171, 172, 173, 174, 175, 176, 177, 178, 179, 180, 181, 182, 183, 184, 185, 73, 186, 193, 194, 195, 196, 197, 198, 199, 200, 201, 202, 217, 218, 219, 220, 221, 203, 204, 205, 206, 207, 208, 209, 216, 214, 215, 210, 211, 212, 213] (by decide +kernel) (by decide +kernel)
set_option maxRecDepth 20000 in
theorem gX9_atEnd_X8_driveToEnd : GoodIn wsX9_atEnd (wsV RX9 238 RX8 yX8_driveToEnd wsX8_driveToEnd) := goodIn_app (goodIn_of _ (by decide +kernel)) ggX9_atEnd_X8_driveToEnd
theorem dX9_atEnd_0 : decode cX9_atEnd 0 = .ok (.aload_n 0, 1) := by decide +kernel
theorem dX9_atEnd_1 : decode cX9_atEnd 1 = .ok (.getfield 10, 3) := by decide +kernel
theorem dX9_atEnd_4 : decode cX9_atEnd 4 = .ok (.getfield 49, 3) := by decide +kernel
theorem dX9_atEnd_7 : decode cX9_atEnd 7 = .ok (.iload_n 1, 1) := by decide +kernel
theorem dX9_atEnd_8 : decode cX9_atEnd 8 = .ok (.invokevirtual 77, 3) := by decide +kernel
theorem dX9_atEnd_11 : decode cX9_atEnd 11 = .ok (.ifnonnull 5, 3) := by decide +kernel
theorem dX9_atEnd_14 : decode cX9_atEnd 14 = .ok (.iconst (-1), 1) := by decide +kernel
theorem dX9_atEnd_15 : decode cX9_atEnd 15 = .ok (.ireturn, 1) := by decide +kernel
theorem dX9_atEnd_16 : decode cX9_atEnd 16 = .ok (.iload_n 2, 1) := by decide +kernel
theorem dX9_atEnd_17 : decode cX9_atEnd 17 = .ok (.iconst 0, 1) := by decide +kernel
theorem dX9_atEnd_18 : decode cX9_atEnd 18 = .ok (.bipush 100, 2) := by decide +kernel
theorem dX9_atEnd_20 : decode cX9_atEnd 20 = .ok (.invokestatic 43, 3) := by decide +kernel
theorem dX9_atEnd_23 : decode cX9_atEnd 23 = .ok (.ifCond .ne 6, 3) := by decide +kernel
theorem dX9_atEnd_26 : decode cX9_atEnd 26 = .ok (.bipush (-2), 2) := by decide +kernel
theorem dX9_atEnd_28 : decode cX9_atEnd 28 = .ok (.ireturn, 1) := by decide +kernel
theorem dX9_atEnd_29 : decode cX9_atEnd 29 = .ok (.aload_n 0, 1) := by decide +kernel
theorem dX9_atEnd_30 : decode cX9_atEnd 30 = .ok (.getfield 16, 3) := by decide +kernel
theorem dX9_atEnd_33 : decode cX9_atEnd 33 = .ok (.aload_n 0, 1) := by decide +kernel
theorem dX9_atEnd_34 : decode cX9_atEnd 34 = .ok (.getfield 10, 3) := by decide +kernel
theorem dX9_atEnd_37 : decode cX9_atEnd 37 = .ok (.invokevirtual 234, 3) := by decide +kernel
theorem dX9_atEnd_40 : decode cX9_atEnd 40 = .ok (.aload_n 0, 1) := by decide +kernel
theorem dX9_atEnd_41 : decode cX9_atEnd 41 = .ok (.getfield 16, 3) := by decide +kernel
theorem dX9_atEnd_44 : decode cX9_atEnd 44 = .ok (.getfield 59, 3) := by decide +kernel
theorem dX9_atEnd_47 : decode cX9_atEnd 47 = .ok (.iconst 0, 1) := by decide +kernel
theorem dX9_atEnd_48 : decode cX9_atEnd 48 = .ok (.putfield 63, 3) := by decide +kernel
theorem dX9_atEnd_51 : decode cX9_atEnd 51 = .ok (.aload_n 0, 1) := by decide +kernel
theorem dX9_atEnd_52 : decode cX9_atEnd 52 = .ok (.getfield 16, 3) := by decide +kernel
theorem dX9_atEnd_55 : decode cX9_atEnd 55 = .ok (.iload_n 2, 1) := by decide +kernel
theorem dX9_atEnd_56 : decode cX9_atEnd 56 = .ok (.invokevirtual 238, 3) := by decide +kernel
theorem dX9_atEnd_59 : decode cX9_atEnd 59 = .ok (.aload_n 0, 1) := by decide +kernel
theorem dX9_atEnd_60 : decode cX9_atEnd 60 = .ok (.getfield 16, 3) := by decide +kernel
theorem dX9_atEnd_63 : decode cX9_atEnd 63 = .ok (.getfield 49, 3) := by decide +kernel
theorem dX9_atEnd_66 : decode cX9_atEnd 66 = .ok (.iload_n 1, 1) := by decide +kernel
theorem dX9_atEnd_67 : decode cX9_atEnd 67 = .ok (.invokevirtual 77, 3) := by decide +kernel
theorem dX9_atEnd_70 : decode cX9_atEnd 70 = .ok (.astore_n 3, 1) := by decide +kernel
theorem dX9_atEnd_71 : decode cX9_atEnd 71 = .ok (.aload_n 3, 1) := by decide +kernel
theorem dX9_atEnd_72 : decode cX9_atEnd 72 = .ok (.ifnonnull 7, 3) := by decide +kernel
theorem dX9_atEnd_75 : decode cX9_atEnd 75 = .ok (.iconst (-1), 1) := by decide +kernel
theorem dX9_atEnd_76 : decode cX9_atEnd 76 = .ok (.goto 7, 3) := by decide +kernel
theorem dX9_atEnd_79 : decode cX9_atEnd 79 = .ok (.aload_n 3, 1) := by decide +kernel
theorem dX9_atEnd_80 : decode cX9_atEnd 80 = .ok (.getfield 81, 3) := by decide +kernel
theorem dX9_atEnd_83 : decode cX9_atEnd 83 = .ok (.ireturn, 1) := by decide +kernel
set_option maxRecDepth 20000 in
theorem ggX9_worst_X9_within : GoodIn wsX9_worst wsX9_within := goodIn_r _ [10] (by decide +kernel) (by decide +kernel)
set_option maxRecDepth 20000 in
theorem gX9_worst_X9_within : GoodIn wsX9_worst (va_wsS RX9 43 yX9_within wsX9_within) := goodIn_app (goodIn_of _ (by decide +kernel)) ggX9_worst_X9_within
set_option maxRecDepth 20000 in
theorem ggX9_worst_X8_becomeLike : GoodIn wsX9_worst wsX8_becomeLike := goodIn_r _ [15, 16, 17, 18, 19, 20, 21, 22, 23, 24, 25, 26, 27, 28, 29, 30, 31, 32, 33, 34, 35, 36, 37, 38, 39, 40, 41, 42, 43, 44, 45, 46, 47, 48, 49, 50, 51, 52, 53, 54, 55, 56, 57, 58, 59, 60, 61, 62, 63, 64, 65, 66, 67, 68, 69, 70, 71, 72, 73, 74, 172, 173, 174, 175, 176, 177, 178, 179, 180, 181, 182, 183, 184, 185, 186, 187, 188, 189, 190, 191, 192, 193, 194, 195, 196, 197, 198, 199, 200] (by decide +kernel) (by decide +kernel)
set_option maxRecDepth 20000 in
theorem gX9_worst_X8_becomeLike : GoodIn wsX9_worst (wsV RX9 234 RX8 yX8_becomeLike wsX8_becomeLike) := goodIn_app (goodIn_of _ (by decide +kernel)) ggX9_worst_X8_becomeLike
set_option maxRecDepth 20000 in
theorem ggX9_worst_X8_letMinutePass : GoodIn wsX9_worst wsX8_letMinutePass := goodIn_r _ [78, 17, 18, 79, 16, 23, 19, 20, 80, 81, 82, 29, 83, 31, 8, 9, 10, 84, 85, 86, 39, 87, 41, 42, 88, 89, 90, 46, 91, 92, 48, 93, 4, 5, 6, 50, 94, 95, 96, 97, 98, 99, 100, 101, 102, 51, 103, 104, 105, 106, 107, 108, 67, 109, 73, 71, 110, 111, 112, 113, 72, 114, 115, 116, 55, 117, 58, 62, 63, 118, 119, 120, 121, 57, 60, 122, 123, 124, 125, 126, 127, 128, 129, 130, 131, 132, 133, 134, 135, 136, 137, 138, 139, 140, 59, 61, 141, 142, 143, 144, 145, 146, 147, 148, 149, 150, 151, 152, 153, 154, 155, 156, 74, 157, 158, 159, 160, 172, 173, 174, 175, 176, 177, 178, 179, 180, 181, 189, 190, 191, 192, 193, 194, 195, 182, 183, 184, 185, 186, 187, 188, 196, 197, 198, 199, 200] (by decide +kernel) (by decide +kernel)
set_option maxRecDepth 20000 in
theorem gX9_worst_X8_letMinutePass : GoodIn wsX9_worst (wsV RX9 241 RX8 yX8_letMinutePass wsX8_letMinutePass) := goodIn_app (goodIn_of _ (by decide +kernel)) ggX9_worst_X8_letMinutePass
set_option maxRecDepth 20000 in
theorem ggX9_worst_X8_concentration : GoodIn wsX9_worst wsX8_concentration := goodIn_r _ [164, 18, 16, 165, 133, 134, 55, 135, 58, 136, 126, 81, 82, 29, 83, 31, 8, 9, 10, 97, 98, 172, 173, 174, 175, 176, 177, 178, 179, 180, 181, 189, 190, 191, 192, 193, 194, 195, 182] (by decide +kernel) (by decide +kernel)
set_option maxRecDepth 20000 in
theorem gX9_worst_X8_concentration : GoodIn wsX9_worst (wsV RX9 160 RX8 yX8_concentration wsX8_concentration) := goodIn_app (goodIn_of _ (by decide +kernel)) ggX9_worst_X8_concentration
theorem dX9_worst_0 : decode cX9_worst 0 = .ok (.iload_n 1, 1) := by decide +kernel
theorem dX9_worst_1 : decode cX9_worst 1 = .ok (.iconst 1, 1) := by decide +kernel
theorem dX9_worst_2 : decode cX9_worst 2 = .ok (.sipush 1000, 3) := by decide +kernel
theorem dX9_worst_5 : decode cX9_worst 5 = .ok (.invokestatic 43, 3) := by decide +kernel
theorem dX9_worst_8 : decode cX9_worst 8 = .ok (.ifCond .ne 6, 3) := by decide +kernel
theorem dX9_worst_11 : decode cX9_worst 11 = .ok (.bipush (-2), 2) := by decide +kernel
theorem dX9_worst_13 : decode cX9_worst 13 = .ok (.ireturn, 1) := by decide +kernel
theorem dX9_worst_14 : decode cX9_worst 14 = .ok (.aload_n 0, 1) := by decide +kernel
theorem dX9_worst_15 : decode cX9_worst 15 = .ok (.getfield 16, 3) := by decide +kernel
theorem dX9_worst_18 : decode cX9_worst 18 = .ok (.aload_n 0, 1) := by decide +kernel
theorem dX9_worst_19 : decode cX9_worst 19 = .ok (.getfield 10, 3) := by decide +kernel
theorem dX9_worst_22 : decode cX9_worst 22 = .ok (.invokevirtual 234, 3) := by decide +kernel
theorem dX9_worst_25 : decode cX9_worst 25 = .ok (.lconst 0, 1) := by decide +kernel
theorem dX9_worst_26 : decode cX9_worst 26 = .ok (.lstore_n 2, 1) := by decide +kernel
theorem dX9_worst_27 : decode cX9_worst 27 = .ok (.iconst 0, 1) := by decide +kernel
theorem dX9_worst_28 : decode cX9_worst 28 = .ok (.istore 4, 2) := by decide +kernel
theorem dX9_worst_30 : decode cX9_worst 30 = .ok (.iload 4, 2) := by decide +kernel
theorem dX9_worst_32 : decode cX9_worst 32 = .ok (.iload_n 1, 1) := by decide +kernel
theorem dX9_worst_33 : decode cX9_worst 33 = .ok (.if_icmp .ge 28, 3) := by decide +kernel
theorem dX9_worst_36 : decode cX9_worst 36 = .ok (.aload_n 0, 1) := by decide +kernel
theorem dX9_worst_37 : decode cX9_worst 37 = .ok (.getfield 16, 3) := by decide +kernel
theorem dX9_worst_40 : decode cX9_worst 40 = .ok (.invokevirtual 241, 3) := by decide +kernel
theorem dX9_worst_43 : decode cX9_worst 43 = .ok (.lload_n 2, 1) := by decide +kernel
theorem dX9_worst_44 : decode cX9_worst 44 = .ok (.aload_n 0, 1) := by decide +kernel
theorem dX9_worst_45 : decode cX9_worst 45 = .ok (.getfield 16, 3) := by decide +kernel
theorem dX9_worst_48 : decode cX9_worst 48 = .ok (.invokevirtual 160, 3) := by decide +kernel
theorem dX9_worst_51 : decode cX9_worst 51 = .ok (.invokestatic 244, 3) := by decide +kernel
theorem dX9_worst_54 : decode cX9_worst 54 = .ok (.lstore_n 2, 1) := by decide +kernel
theorem dX9_worst_55 : decode cX9_worst 55 = .ok (.iinc 4 1, 3) := by decide +kernel
theorem dX9_worst_58 : decode cX9_worst 58 = .ok (.goto (-28), 3) := by decide +kernel
theorem dX9_worst_61 : decode cX9_worst 61 = .ok (.lload_n 2, 1) := by decide +kernel
theorem dX9_worst_62 : decode cX9_worst 62 = .ok (.l2i, 1) := by decide +kernel
theorem dX9_worst_63 : decode cX9_worst 63 = .ok (.ireturn, 1) := by decide +kernel
set_option maxRecDepth 20000 in
theorem ggX9_purge_X9_within : GoodIn wsX9_purge wsX9_within := goodIn_r _ [8] (by decide +kernel) (by decide +kernel)
set_option maxRecDepth 20000 in
theorem gX9_purge_X9_within : GoodIn wsX9_purge (va_wsS RX9 43 yX9_within wsX9_within) := goodIn_app (goodIn_of _ (by decide +kernel)) ggX9_purge_X9_within
set_option maxRecDepth 20000 in
theorem ggX9_purge_X8_becomeLike : GoodIn wsX9_purge wsX8_becomeLike := goodIn_r _ [13, 14, 15, 16, 17, 18, 19, 20, 21, 22, 23, 24, 25, 26, 27, 28, 29, 30, 31, 32, 33, 34, 35, 36, 37, 38, 39, 40, 41, 42, 43, 44, 45, 46, 47, 48, 49, 50, 51, 52, 53, 54, 55, 56, 57, 58, 59, 60, 61, 62, 63, 64, 65, 66, 67, 68, 69, 70, 71, 72, 181, 182, 183, 184, 185, 186, 187, 188, 189, 190, 198, 199, 200, 201, 202, 203, 204, 191, 192, 193, 194, 195, 196, 197, 205, 206, 207, 208, 209] (by decide +kernel) (by decide +kernel)
set_option maxRecDepth 20000 in
theorem gX9_purge_X8_becomeLike : GoodIn wsX9_purge (wsV RX9 234 RX8 yX8_becomeLike wsX8_becomeLike) := goodIn_app (goodIn_of _ (by decide +kernel)) ggX9_purge_X8_becomeLike
set_option maxRecDepth 20000 in
theorem ggX9_purge_X1_setVentMode : GoodIn wsX9_purge wsX1_setVentMode := goodIn_r _ [76, 57, 77, 78, 79, 53, 80, 81, 82, 83, 84, 58, 85, 86, 87, 88, 59, 191, 192, 193, 194, 195, 196, 197] (by decide +kernel) (by decide +kernel)
set_option maxRecDepth 20000 in
theorem gX9_purge_X1_setVentMode : GoodIn wsX9_purge (wsV RX9 151 RX1 yX1_setVentMode wsX1_setVentMode) := goodIn_app (goodIn_of _ (by decide +kernel)) ggX9_purge_X1_setVentMode
set_option maxRecDepth 20000 in
theorem ggX9_purge_X8_isSafe : GoodIn wsX9_purge wsX8_isSafe := goodIn_r _ [92, 14, 93, 94, 95, 12, 96, 16, 97, 98, 99, 53, 100, 56, 101, 102, 103, 104, 27, 105, 29, 6, 7, 8, 106, 107, 108, 181, 182, 183, 184, 185, 186, 187, 188, 189, 190, 191, 192, 193, 194, 195, 196, 197, 198] (by decide +kernel) (by decide +kernel)
set_option maxRecDepth 20000 in
theorem gX9_purge_X8_isSafe : GoodIn wsX9_purge (wsV RX9 154 RX8 yX8_isSafe wsX8_isSafe) := goodIn_app (goodIn_of _ (by decide +kernel)) ggX9_purge_X8_isSafe
set_option maxRecDepth 20000 in
theorem ggX9_purge_X8_letMinutePass : GoodIn wsX9_purge wsX8_letMinutePass := goodIn_r _ [112, 15, 16, 113, 14, 21, 17, 18, 108, 103, 104, 27, 105, 29, 6, 7, 8, 114, 115, 116, 37, 117, 39, 40, 118, 119, 120, 44, 121, 122, 46, 123, 124, 125, 126, 48, 127, 128, 129, 106, 107, 130, 131, 132, 133, 49, 134, 135, 136, 137, 138, 139, 65, 140, 71, 69, 141, 142, 143, 144, 70, 145, 146, 147, 53, 148, 56, 60, 61, 149, 150, 151, 152, 55, 58, 153, 154, 155, 156, 102, 157, 158, 159, 160, 161, 162, 98, 99, 100, 101, 163, 164, 165, 166, 57, 59, 77, 78, 79, 80, 81, 82, 83, 84, 85, 86, 87, 88, 167, 168, 169, 170, 72, 171, 172, 173, 174, 181, 182, 183, 184, 185, 186, 187, 188, 189, 190, 191, 192, 193, 194, 195, 196, 197, 198, 199, 200, 201, 202, 203, 204, 205, 206, 207, 208, 209] (by decide +kernel) (by decide +kernel)
set_option maxRecDepth 20000 in
theorem gX9_purge_X8_letMinutePass : GoodIn wsX9_purge (wsV RX9 241 RX8 yX8_letMinutePass wsX8_letMinutePass) := goodIn_app (goodIn_of _ (by decide +kernel)) ggX9_purge_X8_letMinutePass
theorem dX9_purge_0 : decode cX9_purge 0 = .ok (.iload_n 1, 1) := by decide +kernel
theorem dX9_purge_1 : decode cX9_purge 1 = .ok (.iconst 1, 1) := by decide +kernel
theorem dX9_purge_2 : decode cX9_purge 2 = .ok (.sipush 1000, 3) := by decide +kernel
theorem dX9_purge_5 : decode cX9_purge 5 = .ok (.invokestatic 43, 3) := by decide +kernel
theorem dX9_purge_8 : decode cX9_purge 8 = .ok (.ifCond .ne 6, 3) := by decide +kernel
theorem dX9_purge_11 : decode cX9_purge 11 = .ok (.bipush (-2), 2) := by decide +kernel
theorem dX9_purge_13 : decode cX9_purge 13 = .ok (.ireturn, 1) := by decide +kernel
theorem dX9_purge_14 : decode cX9_purge 14 = .ok (.aload_n 0, 1) := by decide +kernel
theorem dX9_purge_15 : decode cX9_purge 15 = .ok (.getfield 16, 3) := by decide +kernel
theorem dX9_purge_18 : decode cX9_purge 18 = .ok (.aload_n 0, 1) := by decide +kernel
theorem dX9_purge_19 : decode cX9_purge 19 = .ok (.getfield 10, 3) := by decide +kernel
theorem dX9_purge_22 : decode cX9_purge 22 = .ok (.invokevirtual 234, 3) := by decide +kernel
theorem dX9_purge_25 : decode cX9_purge 25 = .ok (.aload_n 0, 1) := by decide +kernel
theorem dX9_purge_26 : decode cX9_purge 26 = .ok (.getfield 16, 3) := by decide +kernel
theorem dX9_purge_29 : decode cX9_purge 29 = .ok (.getfield 59, 3) := by decide +kernel
theorem dX9_purge_32 : decode cX9_purge 32 = .ok (.iconst 0, 1) := by decide +kernel
theorem dX9_purge_33 : decode cX9_purge 33 = .ok (.putfield 63, 3) := by decide +kernel
theorem dX9_purge_36 : decode cX9_purge 36 = .ok (.aload_n 0, 1) := by decide +kernel
theorem dX9_purge_37 : decode cX9_purge 37 = .ok (.getfield 16, 3) := by decide +kernel
theorem dX9_purge_40 : decode cX9_purge 40 = .ok (.getfield 59, 3) := by decide +kernel
theorem dX9_purge_43 : decode cX9_purge 43 = .ok (.iconst 2, 1) := by decide +kernel
theorem dX9_purge_44 : decode cX9_purge 44 = .ok (.invokevirtual 151, 3) := by decide +kernel
theorem dX9_purge_47 : decode cX9_purge 47 = .ok (.iconst 0, 1) := by decide +kernel
theorem dX9_purge_48 : decode cX9_purge 48 = .ok (.istore_n 2, 1) := by decide +kernel
theorem dX9_purge_49 : decode cX9_purge 49 = .ok (.iload_n 2, 1) := by decide +kernel
theorem dX9_purge_50 : decode cX9_purge 50 = .ok (.iload_n 1, 1) := by decide +kernel
theorem dX9_purge_51 : decode cX9_purge 51 = .ok (.if_icmp .gt 28, 3) := by decide +kernel
theorem dX9_purge_54 : decode cX9_purge 54 = .ok (.aload_n 0, 1) := by decide +kernel
theorem dX9_purge_55 : decode cX9_purge 55 = .ok (.getfield 16, 3) := by decide +kernel
theorem dX9_purge_58 : decode cX9_purge 58 = .ok (.invokevirtual 154, 3) := by decide +kernel
theorem dX9_purge_61 : decode cX9_purge 61 = .ok (.ifCond .eq 5, 3) := by decide +kernel
theorem dX9_purge_64 : decode cX9_purge 64 = .ok (.iload_n 2, 1) := by decide +kernel
theorem dX9_purge_65 : decode cX9_purge 65 = .ok (.ireturn, 1) := by decide +kernel
theorem dX9_purge_66 : decode cX9_purge 66 = .ok (.aload_n 0, 1) := by decide +kernel
theorem dX9_purge_67 : decode cX9_purge 67 = .ok (.getfield 16, 3) := by decide +kernel
theorem dX9_purge_70 : decode cX9_purge 70 = .ok (.invokevirtual 241, 3) := by decide +kernel
theorem dX9_purge_73 : decode cX9_purge 73 = .ok (.iinc 2 1, 3) := by decide +kernel
theorem dX9_purge_76 : decode cX9_purge 76 = .ok (.goto (-27), 3) := by decide +kernel
theorem dX9_purge_79 : decode cX9_purge 79 = .ok (.bipush (-6), 2) := by decide +kernel
theorem dX9_purge_81 : decode cX9_purge 81 = .ok (.ireturn, 1) := by decide +kernel
set_option maxRecDepth 20000 in
theorem ggX9_front_X9_within : GoodIn wsX9_front wsX9_within := goodIn_r _ [8] (by decide +kernel) (by decide +kernel)
set_option maxRecDepth 20000 in
theorem gX9_front_X9_within : GoodIn wsX9_front (va_wsS RX9 43 yX9_within wsX9_within) := goodIn_app (goodIn_of _ (by decide +kernel)) ggX9_front_X9_within
set_option maxRecDepth 20000 in
theorem ggX9_front_X2_iceOfAll : GoodIn wsX9_front wsX2_iceOfAll := goodIn_r _ [13, 14, 15, 16, 201, 202, 203, 204, 205, 206] (by decide +kernel) (by decide +kernel)
set_option maxRecDepth 20000 in
theorem gX9_front_X2_iceOfAll : GoodIn wsX9_front (wsV RX9 165 RX2 yX2_iceOfAll wsX2_iceOfAll) := goodIn_app (goodIn_of _ (by decide +kernel)) ggX9_front_X2_iceOfAll
set_option maxRecDepth 20000 in
theorem ggX9_front_X9_iceLeftWithFront : GoodIn wsX9_front wsX9_iceLeftWithFront := goodIn_r _ [20, 21, 2, 3, 22, 23, 24, 25, 26, 27, 28, 29, 30, 31, 32, 33, 34, 35, 36, 37, 38, 39, 40, 41, 42, 43, 44, 45, 46, 47, 48, 49, 12, 50, 14, 15, 51, 52, 53, 54, 55, 56, 57, 58, 59, 60, 61, 62, 63, 64, 65, 66, 67, 68, 69, 70, 71, 72, 73, 74, 75, 76, 77, 78, 79, 80, 81, 82, 83, 84, 85, 86, 6, 7, 8, 87, 88, 89, 90, 16, 91, 92, 93, 94, 95, 96, 97, 98, 99, 100, 101, 102, 103, 104, 105, 106, 107, 108, 109, 110, 111, 112, 113, 114, 115, 116, 117, 118, 119, 120, 121, 122, 123, 124, 125, 126, 127, 128, 129, 130, 131, 132, 133, 134, 135, 136, 137, 138, 139, 140, 141, 142, 143, 144, 145, 146, 147, 148, 149, 150, 151, 152, 153, 154, 155, 156, 157, 158, 159, 160, 161, 162, 163, 164, 165, 166, 167, 168, 169, 170, 171, 172, 173, 174, 175, 176, 177, 178, 179, 180, 181, 182, 183, 184, 9, 10, 11, 13, 185, 186, 187, 188, 189, 190, 191, 192, 193, 194, 195, 196, 197, 198, 199, 200, 207, 201, 202, 203, 204, 205, 206, 208, 209, 210, 211, 212, 213, 214, 215, 216, 217, 218, 219] (by decide +kernel) (by decide +kernel)
set_option maxRecDepth 20000 in
theorem gX9_front_X9_iceLeftWithFront : GoodIn wsX9_front (wsV RX9 248 RX9 yX9_iceLeftWithFront wsX9_iceLeftWithFront) := goodIn_app (goodIn_of _ (by decide +kernel)) ggX9_front_X9_iceLeftWithFront
theorem dX9_front_0 : decode cX9_front 0 = .ok (.iload_n 1, 1) := by decide +kernel
theorem dX9_front_1 : decode cX9_front 1 = .ok (.iconst 1, 1) := by decide +kernel
theorem dX9_front_2 : decode cX9_front 2 = .ok (.ldc 164, 2) := by decide +kernel
theorem dX9_front_4 : decode cX9_front 4 = .ok (.invokestatic 43, 3) := by decide +kernel
theorem dX9_front_7 : decode cX9_front 7 = .ok (.ifCond .eq 13, 3) := by decide +kernel
theorem dX9_front_10 : decode cX9_front 10 = .ok (.iload_n 2, 1) := by decide +kernel
theorem dX9_front_11 : decode cX9_front 11 = .ok (.iconst 1, 1) := by decide +kernel
theorem dX9_front_12 : decode cX9_front 12 = .ok (.bipush 100, 2) := by decide +kernel
theorem dX9_front_14 : decode cX9_front 14 = .ok (.invokestatic 43, 3) := by decide +kernel
theorem dX9_front_17 : decode cX9_front 17 = .ok (.ifCond .ne 6, 3) := by decide +kernel
theorem dX9_front_20 : decode cX9_front 20 = .ok (.bipush (-2), 2) := by decide +kernel
theorem dX9_front_22 : decode cX9_front 22 = .ok (.ireturn, 1) := by decide +kernel
theorem dX9_front_23 : decode cX9_front 23 = .ok (.iload_n 1, 1) := by decide +kernel
theorem dX9_front_24 : decode cX9_front 24 = .ok (.aload_n 0, 1) := by decide +kernel
theorem dX9_front_25 : decode cX9_front 25 = .ok (.getfield 10, 3) := by decide +kernel
theorem dX9_front_28 : decode cX9_front 28 = .ok (.getfield 49, 3) := by decide +kernel
theorem dX9_front_31 : decode cX9_front 31 = .ok (.invokevirtual 165, 3) := by decide +kernel
theorem dX9_front_34 : decode cX9_front 34 = .ok (.if_icmp .le 6, 3) := by decide +kernel
theorem dX9_front_37 : decode cX9_front 37 = .ok (.bipush (-5), 2) := by decide +kernel
theorem dX9_front_39 : decode cX9_front 39 = .ok (.ireturn, 1) := by decide +kernel
theorem dX9_front_40 : decode cX9_front 40 = .ok (.iconst 0, 1) := by decide +kernel
theorem dX9_front_41 : decode cX9_front 41 = .ok (.istore_n 3, 1) := by decide +kernel
theorem dX9_front_42 : decode cX9_front 42 = .ok (.iconst (-1), 1) := by decide +kernel
theorem dX9_front_43 : decode cX9_front 43 = .ok (.istore 4, 2) := by decide +kernel
theorem dX9_front_45 : decode cX9_front 45 = .ok (.iconst 0, 1) := by decide +kernel
theorem dX9_front_46 : decode cX9_front 46 = .ok (.istore 5, 2) := by decide +kernel
theorem dX9_front_48 : decode cX9_front 48 = .ok (.iload 5, 2) := by decide +kernel
theorem dX9_front_50 : decode cX9_front 50 = .ok (.aload_n 0, 1) := by decide +kernel
theorem dX9_front_51 : decode cX9_front 51 = .ok (.getfield 10, 3) := by decide +kernel
theorem dX9_front_54 : decode cX9_front 54 = .ok (.getfield 49, 3) := by decide +kernel
theorem dX9_front_57 : decode cX9_front 57 = .ok (.getfield 53, 3) := by decide +kernel
theorem dX9_front_60 : decode cX9_front 60 = .ok (.if_icmp .ge 33, 3) := by decide +kernel
theorem dX9_front_63 : decode cX9_front 63 = .ok (.aload_n 0, 1) := by decide +kernel
theorem dX9_front_64 : decode cX9_front 64 = .ok (.iload 5, 2) := by decide +kernel
theorem dX9_front_66 : decode cX9_front 66 = .ok (.iload_n 1, 1) := by decide +kernel
theorem dX9_front_67 : decode cX9_front 67 = .ok (.iload_n 2, 1) := by decide +kernel
theorem dX9_front_68 : decode cX9_front 68 = .ok (.invokevirtual 248, 3) := by decide +kernel
theorem dX9_front_71 : decode cX9_front 71 = .ok (.istore 6, 2) := by decide +kernel
theorem dX9_front_73 : decode cX9_front 73 = .ok (.iload 6, 2) := by decide +kernel
theorem dX9_front_75 : decode cX9_front 75 = .ok (.iload 4, 2) := by decide +kernel
theorem dX9_front_77 : decode cX9_front 77 = .ok (.if_icmp .le 10, 3) := by decide +kernel
theorem dX9_front_80 : decode cX9_front 80 = .ok (.iload 5, 2) := by decide +kernel
theorem dX9_front_82 : decode cX9_front 82 = .ok (.istore_n 3, 1) := by decide +kernel
theorem dX9_front_83 : decode cX9_front 83 = .ok (.iload 6, 2) := by decide +kernel
theorem dX9_front_85 : decode cX9_front 85 = .ok (.istore 4, 2) := by decide +kernel
theorem dX9_front_87 : decode cX9_front 87 = .ok (.iinc 5 1, 3) := by decide +kernel
theorem dX9_front_90 : decode cX9_front 90 = .ok (.goto (-42), 3) := by decide +kernel
theorem dX9_front_93 : decode cX9_front 93 = .ok (.iload_n 3, 1) := by decide +kernel
theorem dX9_front_94 : decode cX9_front 94 = .ok (.ireturn, 1) := by decide +kernel
set_option maxRecDepth 20000 in
theorem ggX9_iceLeftWithFront_X8_becomeLike : GoodIn wsX9_iceLeftWithFront wsX8_becomeLike := goodIn_r _ [8, 9, 10, 11, 12, 13, 14, 15, 16, 17, 18, 19, 20, 21, 22, 23, 24, 25, 26, 27, 28, 29, 30, 31, 32, 33, 34, 35, 36, 37, 38, 39, 40, 41, 42, 43, 44, 45, 46, 47, 48, 49, 50, 51, 52, 53, 54, 55, 56, 57, 58, 59, 60, 61, 62, 63, 64, 65, 66, 67, 184, 185, 186, 187, 188, 189, 190, 191, 192, 193, 194, 195, 196, 197, 198, 199, 200, 201, 202, 203, 204, 205, 206, 207, 208, 209, 210, 211, 212] (by decide +kernel) (by decide +kernel)
set_option maxRecDepth 20000 in
theorem gX9_iceLeftWithFront_X8_becomeLike : GoodIn wsX9_iceLeftWithFront (wsV RX9 234 RX8 yX8_becomeLike wsX8_becomeLike) := goodIn_app (goodIn_of _ (by decide +kernel)) ggX9_iceLeftWithFront_X8_becomeLike
set_option maxRecDepth 20000 in
theorem ggX9_iceLeftWithFront_X2_move : GoodIn wsX9_iceLeftWithFront wsX2_move := goodIn_r _ [71, 34, 35, 72, 73, 74, 195, 196] (by decide +kernel) (by decide +kernel)
set_option maxRecDepth 20000 in
theorem gX9_iceLeftWithFront_X2_move : GoodIn wsX9_iceLeftWithFront (wsV RX9 93 RX2 yX2_move wsX2_move) := goodIn_app (goodIn_of _ (by decide +kernel)) ggX9_iceLeftWithFront_X2_move
set_option maxRecDepth 20000 in
theorem ggX9_iceLeftWithFront_X2_takeFromFront : GoodIn wsX9_iceLeftWithFront wsX2_takeFromFront := goodIn_r _ [78, 34, 35, 79, 80, 81, 82, 83, 84, 85, 86, 39, 87, 43, 44, 88, 89, 90, 195, 196, 197, 198, 199, 200] (by decide +kernel) (by decide +kernel)
set_option maxRecDepth 20000 in
theorem gX9_iceLeftWithFront_X2_takeFromFront : GoodIn wsX9_iceLeftWithFront (wsV RX9 172 RX2 yX2_takeFromFront wsX2_takeFromFront) := goodIn_app (goodIn_of _ (by decide +kernel)) ggX9_iceLeftWithFront_X2_takeFromFront
set_option maxRecDepth 20000 in
theorem ggX9_iceLeftWithFront_X8_letPass : GoodIn wsX9_iceLeftWithFront wsX8_letPass := goodIn_r _ [94, 95, 96, 97, 7, 98, 10, 11, 99, 9, 16, 12, 13, 100, 101, 102, 22, 103, 24, 72, 73, 74, 104, 105, 106, 32, 107, 34, 35, 108, 109, 110, 39, 111, 112, 41, 113, 114, 82, 115, 43, 116, 117, 118, 119, 120, 84, 85, 86, 87, 44, 88, 89, 90, 121, 122, 123, 60, 124, 66, 64, 125, 126, 127, 128, 65, 129, 130, 131, 48, 132, 51, 55, 56, 133, 134, 135, 136, 50, 53, 137, 81, 83, 138, 139, 140, 141, 142, 143, 144, 145, 146, 147, 148, 149, 150, 151, 152, 153, 52, 54, 154, 155, 156, 157, 158, 159, 160, 161, 162, 163, 164, 165, 166, 167, 168, 169, 67, 170, 171, 172, 173, 184, 185, 186, 187, 188, 189, 190, 191, 192, 193, 201, 202, 203, 204, 205, 206, 207, 194, 195, 196, 197, 198, 199, 200, 208, 209, 210, 211, 212] (by decide +kernel) (by decide +kernel)
set_option maxRecDepth 20000 in
theorem gX9_iceLeftWithFront_X8_letPass : GoodIn wsX9_iceLeftWithFront (wsV RX9 145 RX8 yX8_letPass wsX8_letPass) := goodIn_app (goodIn_of _ (by decide +kernel)) ggX9_iceLeftWithFront_X8_letPass
set_option maxRecDepth 20000 in
theorem ggX9_iceLeftWithFront_X2_iceOfAll : GoodIn wsX9_iceLeftWithFront wsX2_iceOfAll := goodIn_r _ [177, 34, 35, 79, 195, 196, 197, 198, 199, 200] (by decide +kernel) (by decide +kernel)
set_option maxRecDepth 20000 in
theorem gX9_iceLeftWithFront_X2_iceOfAll : GoodIn wsX9_iceLeftWithFront (wsV RX9 165 RX2 yX2_iceOfAll wsX2_iceOfAll) := goodIn_app (goodIn_of _ (by decide +kernel)) ggX9_iceLeftWithFront_X2_iceOfAll
theorem dX9_iceLeftWithFront_0 : decode cX9_iceLeftWithFront 0 = .ok (.aload_n 0, 1) := by decide +kernel
theorem dX9_iceLeftWithFront_1 : decode cX9_iceLeftWithFront 1 = .ok (.getfield 16, 3) := by decide +kernel
theorem dX9_iceLeftWithFront_4 : decode cX9_iceLeftWithFront 4 = .ok (.aload_n 0, 1) := by decide +kernel
theorem dX9_iceLeftWithFront_5 : decode cX9_iceLeftWithFront 5 = .ok (.getfield 10, 3) := by decide +kernel
theorem dX9_iceLeftWithFront_8 : decode cX9_iceLeftWithFront 8 = .ok (.invokevirtual 234, 3) := by decide +kernel
theorem dX9_iceLeftWithFront_11 : decode cX9_iceLeftWithFront 11 = .ok (.aload_n 0, 1) := by decide +kernel
theorem dX9_iceLeftWithFront_12 : decode cX9_iceLeftWithFront 12 = .ok (.getfield 16, 3) := by decide +kernel
theorem dX9_iceLeftWithFront_15 : decode cX9_iceLeftWithFront 15 = .ok (.getfield 49, 3) := by decide +kernel
theorem dX9_iceLeftWithFront_18 : decode cX9_iceLeftWithFront 18 = .ok (.iload_n 1, 1) := by decide +kernel
theorem dX9_iceLeftWithFront_19 : decode cX9_iceLeftWithFront 19 = .ok (.iconst 0, 1) := by decide +kernel
theorem dX9_iceLeftWithFront_20 : decode cX9_iceLeftWithFront 20 = .ok (.invokevirtual 93, 3) := by decide +kernel
theorem dX9_iceLeftWithFront_23 : decode cX9_iceLeftWithFront 23 = .ok (.aload_n 0, 1) := by decide +kernel
theorem dX9_iceLeftWithFront_24 : decode cX9_iceLeftWithFront 24 = .ok (.getfield 16, 3) := by decide +kernel
theorem dX9_iceLeftWithFront_27 : decode cX9_iceLeftWithFront 27 = .ok (.getfield 49, 3) := by decide +kernel
theorem dX9_iceLeftWithFront_30 : decode cX9_iceLeftWithFront 30 = .ok (.iload_n 2, 1) := by decide +kernel
theorem dX9_iceLeftWithFront_31 : decode cX9_iceLeftWithFront 31 = .ok (.invokevirtual 172, 3) := by decide +kernel
theorem dX9_iceLeftWithFront_34 : decode cX9_iceLeftWithFront 34 = .ok (.pop, 1) := by decide +kernel
theorem dX9_iceLeftWithFront_35 : decode cX9_iceLeftWithFront 35 = .ok (.aload_n 0, 1) := by decide +kernel
theorem dX9_iceLeftWithFront_36 : decode cX9_iceLeftWithFront 36 = .ok (.getfield 16, 3) := by decide +kernel
theorem dX9_iceLeftWithFront_39 : decode cX9_iceLeftWithFront 39 = .ok (.iload_n 3, 1) := by decide +kernel
theorem dX9_iceLeftWithFront_40 : decode cX9_iceLeftWithFront 40 = .ok (.invokevirtual 145, 3) := by decide +kernel
theorem dX9_iceLeftWithFront_43 : decode cX9_iceLeftWithFront 43 = .ok (.aload_n 0, 1) := by decide +kernel
theorem dX9_iceLeftWithFront_44 : decode cX9_iceLeftWithFront 44 = .ok (.getfield 16, 3) := by decide +kernel
theorem dX9_iceLeftWithFront_47 : decode cX9_iceLeftWithFront 47 = .ok (.getfield 49, 3) := by decide +kernel
theorem dX9_iceLeftWithFront_50 : decode cX9_iceLeftWithFront 50 = .ok (.invokevirtual 165, 3) := by decide +kernel
theorem dX9_iceLeftWithFront_53 : decode cX9_iceLeftWithFront 53 = .ok (.ireturn, 1) := by decide +kernel
set_option maxRecDepth 20000 in
theorem ggX9_say_X9_within : GoodIn wsX9_say wsX9_within := goodIn_r _ [6] (by decide +kernel) (by decide +kernel)
set_option maxRecDepth 20000 in
theorem gX9_say_X9_within : GoodIn wsX9_say (va_wsS RX9 43 yX9_within wsX9_within) := goodIn_app (goodIn_of _ (by decide +kernel)) ggX9_say_X9_within
set_option maxRecDepth 20000 in
theorem ggX9_say_X3_append : GoodIn wsX9_say wsX3_append := goodIn_r _ [11, 12, 13, 20, 21] (by decide +kernel) (by decide +kernel)
set_option maxRecDepth 20000 in
theorem gX9_say_X3_append : GoodIn wsX9_say (wsV RX9 252 RX3 yX3_append wsX3_append) := goodIn_app (goodIn_of _ (by decide +kernel)) ggX9_say_X3_append
theorem dX9_say_0 : decode cX9_say 0 = .ok (.iload_n 1, 1) := by decide +kernel
theorem dX9_say_1 : decode cX9_say 1 = .ok (.bipush 33, 2) := by decide +kernel
theorem dX9_say_3 : decode cX9_say 3 = .ok (.bipush 126, 2) := by decide +kernel
theorem dX9_say_5 : decode cX9_say 5 = .ok (.invokestatic 43, 3) := by decide +kernel
theorem dX9_say_8 : decode cX9_say 8 = .ok (.ifCond .ne 6, 3) := by decide +kernel
theorem dX9_say_11 : decode cX9_say 11 = .ok (.bipush (-2), 2) := by decide +kernel
theorem dX9_say_13 : decode cX9_say 13 = .ok (.ireturn, 1) := by decide +kernel
theorem dX9_say_14 : decode cX9_say 14 = .ok (.aload_n 0, 1) := by decide +kernel
theorem dX9_say_15 : decode cX9_say 15 = .ok (.getfield 32, 3) := by decide +kernel
theorem dX9_say_18 : decode cX9_say 18 = .ok (.getfield 216, 3) := by decide +kernel
theorem dX9_say_21 : decode cX9_say 21 = .ok (.bipush 80, 2) := by decide +kernel
theorem dX9_say_23 : decode cX9_say 23 = .ok (.if_icmp .lt 6, 3) := by decide +kernel
theorem dX9_say_26 : decode cX9_say 26 = .ok (.bipush (-4), 2) := by decide +kernel
theorem dX9_say_28 : decode cX9_say 28 = .ok (.ireturn, 1) := by decide +kernel
theorem dX9_say_29 : decode cX9_say 29 = .ok (.aload_n 0, 1) := by decide +kernel
theorem dX9_say_30 : decode cX9_say 30 = .ok (.getfield 32, 3) := by decide +kernel
theorem dX9_say_33 : decode cX9_say 33 = .ok (.iload_n 1, 1) := by decide +kernel
theorem dX9_say_34 : decode cX9_say 34 = .ok (.invokevirtual 252, 3) := by decide +kernel
theorem dX9_say_37 : decode cX9_say 37 = .ok (.aload_n 0, 1) := by decide +kernel
theorem dX9_say_38 : decode cX9_say 38 = .ok (.getfield 32, 3) := by decide +kernel
theorem dX9_say_41 : decode cX9_say 41 = .ok (.getfield 216, 3) := by decide +kernel
theorem dX9_say_44 : decode cX9_say 44 = .ok (.ireturn, 1) := by decide +kernel
theorem dX9_wipe_0 : decode cX9_wipe 0 = .ok (.aload_n 0, 1) := by decide +kernel
theorem dX9_wipe_1 : decode cX9_wipe 1 = .ok (.getfield 32, 3) := by decide +kernel
theorem dX9_wipe_4 : decode cX9_wipe 4 = .ok (.getfield 216, 3) := by decide +kernel
theorem dX9_wipe_7 : decode cX9_wipe 7 = .ok (.istore_n 1, 1) := by decide +kernel
theorem dX9_wipe_8 : decode cX9_wipe 8 = .ok (.aload_n 0, 1) := by decide +kernel
theorem dX9_wipe_9 : decode cX9_wipe 9 = .ok (.getfield 32, 3) := by decide +kernel
theorem dX9_wipe_12 : decode cX9_wipe 12 = .ok (.iconst 0, 1) := by decide +kernel
theorem dX9_wipe_13 : decode cX9_wipe 13 = .ok (.putfield 216, 3) := by decide +kernel
theorem dX9_wipe_16 : decode cX9_wipe 16 = .ok (.iload_n 1, 1) := by decide +kernel
theorem dX9_wipe_17 : decode cX9_wipe 17 = .ok (.ireturn, 1) := by decide +kernel
set_option maxRecDepth 20000 in
theorem ggX9_fault_X5_faultOf : GoodIn wsX9_fault wsX5_faultOf := goodIn_r _ [7, 8, 9, 10, 11, 12, 13, 14, 15, 16, 17, 18, 19, 20, 21, 22, 23, 6, 24, 25, 26, 27, 28, 29, 30, 31, 32, 33, 34, 35, 36, 37, 38, 39, 40, 41, 42, 43, 44, 45, 46, 47, 48, 49, 50, 51, 52, 53, 54, 55, 56, 63, 64, 65, 66, 67, 68, 69, 70, 71] (by decide +kernel) (by decide +kernel)
set_option maxRecDepth 20000 in
theorem gX9_fault_X5_faultOf : GoodIn wsX9_fault (wsV RX9 254 RX5 yX5_faultOf wsX5_faultOf) := goodIn_app (goodIn_of _ (by decide +kernel)) ggX9_fault_X5_faultOf
theorem dX9_fault_0 : decode cX9_fault 0 = .ok (.aload_n 0, 1) := by decide +kernel
theorem dX9_fault_1 : decode cX9_fault 1 = .ok (.getfield 39, 3) := by decide +kernel
theorem dX9_fault_4 : decode cX9_fault 4 = .ok (.aload_n 0, 1) := by decide +kernel
theorem dX9_fault_5 : decode cX9_fault 5 = .ok (.getfield 32, 3) := by decide +kernel
theorem dX9_fault_8 : decode cX9_fault 8 = .ok (.invokevirtual 254, 3) := by decide +kernel
theorem dX9_fault_11 : decode cX9_fault 11 = .ok (.ireturn, 1) := by decide +kernel
set_option maxRecDepth 20000 in
theorem ggX9_read_X5_faultOf : GoodIn wsX9_read wsX5_faultOf := goodIn_r _ [12, 13, 14, 15, 16, 17, 18, 19, 20, 21, 22, 23, 24, 25, 26, 27, 28, 11, 29, 30, 31, 32, 33, 34, 35, 36, 37, 38, 39, 40, 41, 42, 43, 44, 45, 46, 47, 48, 49, 50, 51, 52, 53, 54, 55, 56, 57, 58, 59, 60, 61, 99, 100, 101, 102, 103, 104, 105, 106, 107] (by decide +kernel) (by decide +kernel)
set_option maxRecDepth 20000 in
theorem gX9_read_X5_faultOf : GoodIn wsX9_read (wsV RX9 254 RX5 yX5_faultOf wsX5_faultOf) := goodIn_app (goodIn_of _ (by decide +kernel)) ggX9_read_X5_faultOf
set_option maxRecDepth 20000 in
theorem ggX9_read_X5_durationOf : GoodIn wsX9_read wsX5_durationOf := goodIn_r _ [65, 60, 23, 24, 25, 99, 100, 101, 102, 103, 104, 105] (by decide +kernel) (by decide +kernel)
set_option maxRecDepth 20000 in
theorem gX9_read_X5_durationOf : GoodIn wsX9_read (wsV RX9 261 RX5 yX5_durationOf wsX5_durationOf) := goodIn_app (goodIn_of _ (by decide +kernel)) ggX9_read_X5_durationOf
set_option maxRecDepth 20000 in
theorem ggX9_read_X5_outsideOf : GoodIn wsX9_read wsX5_outsideOf := goodIn_r _ [69, 61, 23, 24, 25, 99, 100, 101, 102, 103, 104, 105] (by decide +kernel) (by decide +kernel)
set_option maxRecDepth 20000 in
theorem gX9_read_X5_outsideOf : GoodIn wsX9_read (wsV RX9 262 RX5 yX5_outsideOf wsX5_outsideOf) := goodIn_app (goodIn_of _ (by decide +kernel)) ggX9_read_X5_outsideOf
set_option maxRecDepth 20000 in
theorem ggX9_read_X4_append : GoodIn wsX9_read wsX4_append := goodIn_r _ [74, 75, 76, 77, 94, 95, 96, 97, 98] (by decide +kernel) (by decide +kernel)
set_option maxRecDepth 20000 in
theorem gX9_read_X4_append : GoodIn wsX9_read (wsV RX9 118 RX4 yX4_append wsX4_append) := goodIn_app (goodIn_of _ (by decide +kernel)) ggX9_read_X4_append
theorem dX9_read_0 : decode cX9_read 0 = .ok (.aload_n 0, 1) := by decide +kernel
theorem dX9_read_1 : decode cX9_read 1 = .ok (.getfield 39, 3) := by decide +kernel
theorem dX9_read_4 : decode cX9_read 4 = .ok (.aload_n 0, 1) := by decide +kernel
theorem dX9_read_5 : decode cX9_read 5 = .ok (.getfield 32, 3) := by decide +kernel
theorem dX9_read_8 : decode cX9_read 8 = .ok (.invokevirtual 254, 3) := by decide +kernel
theorem dX9_read_11 : decode cX9_read 11 = .ok (.bipush (-6), 2) := by decide +kernel
theorem dX9_read_13 : decode cX9_read 13 = .ok (.if_icmp .eq 6, 3) := by decide +kernel
theorem dX9_read_16 : decode cX9_read 16 = .ok (.bipush (-3), 2) := by decide +kernel
theorem dX9_read_18 : decode cX9_read 18 = .ok (.ireturn, 1) := by decide +kernel
theorem dX9_read_19 : decode cX9_read 19 = .ok (.aload_n 0, 1) := by decide +kernel
theorem dX9_read_20 : decode cX9_read 20 = .ok (.getfield 10, 3) := by decide +kernel
theorem dX9_read_23 : decode cX9_read 23 = .ok (.getfield 111, 3) := by decide +kernel
theorem dX9_read_26 : decode cX9_read 26 = .ok (.getfield 115, 3) := by decide +kernel
theorem dX9_read_29 : decode cX9_read 29 = .ok (.aload_n 0, 1) := by decide +kernel
theorem dX9_read_30 : decode cX9_read 30 = .ok (.getfield 39, 3) := by decide +kernel
theorem dX9_read_33 : decode cX9_read 33 = .ok (.getfield 258, 3) := by decide +kernel
theorem dX9_read_36 : decode cX9_read 36 = .ok (.iadd, 1) := by decide +kernel
theorem dX9_read_37 : decode cX9_read 37 = .ok (.bipush 12, 2) := by decide +kernel
theorem dX9_read_39 : decode cX9_read 39 = .ok (.if_icmp .le 6, 3) := by decide +kernel
theorem dX9_read_42 : decode cX9_read 42 = .ok (.bipush (-4), 2) := by decide +kernel
theorem dX9_read_44 : decode cX9_read 44 = .ok (.ireturn, 1) := by decide +kernel
theorem dX9_read_45 : decode cX9_read 45 = .ok (.iconst 0, 1) := by decide +kernel
theorem dX9_read_46 : decode cX9_read 46 = .ok (.istore_n 1, 1) := by decide +kernel
theorem dX9_read_47 : decode cX9_read 47 = .ok (.iload_n 1, 1) := by decide +kernel
theorem dX9_read_48 : decode cX9_read 48 = .ok (.aload_n 0, 1) := by decide +kernel
theorem dX9_read_49 : decode cX9_read 49 = .ok (.getfield 39, 3) := by decide +kernel
theorem dX9_read_52 : decode cX9_read 52 = .ok (.getfield 258, 3) := by decide +kernel
theorem dX9_read_55 : decode cX9_read 55 = .ok (.if_icmp .ge 35, 3) := by decide +kernel
theorem dX9_read_58 : decode cX9_read 58 = .ok (.aload_n 0, 1) := by decide +kernel
theorem dX9_read_59 : decode cX9_read 59 = .ok (.getfield 10, 3) := by decide +kernel
theorem dX9_read_62 : decode cX9_read 62 = .ok (.getfield 111, 3) := by decide +kernel
theorem dX9_read_65 : decode cX9_read 65 = .ok (.aload_n 0, 1) := by decide +kernel
theorem dX9_read_66 : decode cX9_read 66 = .ok (.getfield 39, 3) := by decide +kernel
theorem dX9_read_69 : decode cX9_read 69 = .ok (.iload_n 1, 1) := by decide +kernel
theorem dX9_read_70 : decode cX9_read 70 = .ok (.invokevirtual 261, 3) := by decide +kernel
theorem dX9_read_73 : decode cX9_read 73 = .ok (.aload_n 0, 1) := by decide +kernel
theorem dX9_read_74 : decode cX9_read 74 = .ok (.getfield 39, 3) := by decide +kernel
theorem dX9_read_77 : decode cX9_read 77 = .ok (.iload_n 1, 1) := by decide +kernel
theorem dX9_read_78 : decode cX9_read 78 = .ok (.invokevirtual 262, 3) := by decide +kernel
theorem dX9_read_81 : decode cX9_read 81 = .ok (.invokevirtual 118, 3) := by decide +kernel
theorem dX9_read_84 : decode cX9_read 84 = .ok (.iinc 1 1, 3) := by decide +kernel
theorem dX9_read_87 : decode cX9_read 87 = .ok (.goto (-40), 3) := by decide +kernel
theorem dX9_read_90 : decode cX9_read 90 = .ok (.aload_n 0, 1) := by decide +kernel
theorem dX9_read_91 : decode cX9_read 91 = .ok (.getfield 32, 3) := by decide +kernel
theorem dX9_read_94 : decode cX9_read 94 = .ok (.iconst 0, 1) := by decide +kernel
theorem dX9_read_95 : decode cX9_read 95 = .ok (.putfield 216, 3) := by decide +kernel
theorem dX9_read_98 : decode cX9_read 98 = .ok (.aload_n 0, 1) := by decide +kernel
theorem dX9_read_99 : decode cX9_read 99 = .ok (.getfield 10, 3) := by decide +kernel
theorem dX9_read_102 : decode cX9_read 102 = .ok (.getfield 111, 3) := by decide +kernel
theorem dX9_read_105 : decode cX9_read 105 = .ok (.getfield 115, 3) := by decide +kernel
theorem dX9_read_108 : decode cX9_read 108 = .ok (.ireturn, 1) := by decide +kernel
set_option maxRecDepth 20000 in
theorem ggX9_save_X9_within : GoodIn wsX9_save wsX9_within := goodIn_r _ [8] (by decide +kernel) (by decide +kernel)
set_option maxRecDepth 20000 in
theorem gX9_save_X9_within : GoodIn wsX9_save (va_wsS RX9 43 yX9_within wsX9_within) := goodIn_app (goodIn_of _ (by decide +kernel)) ggX9_save_X9_within
set_option maxRecDepth 20000 in
theorem ggX9_save_X9_slotAt : GoodIn wsX9_save wsX9_slotAt := goodIn_r _ [12, 13, 14, 81, 82, 83, 84, 85, 86] (by decide +kernel) (by decide +kernel)
set_option maxRecDepth 20000 in
theorem gX9_save_X9_slotAt : GoodIn wsX9_save (wsV RX9 263 RX9 yX9_slotAt wsX9_slotAt) := goodIn_app (goodIn_of _ (by decide +kernel)) ggX9_save_X9_slotAt
set_option maxRecDepth 20000 in
theorem ggX9_save_X8_becomeLike : GoodIn wsX9_save wsX8_becomeLike := goodIn_r _ [19, 20, 21, 22, 23, 24, 25, 26, 27, 28, 29, 30, 31, 32, 33, 34, 35, 36, 37, 38, 39, 40, 41, 42, 43, 44, 45, 46, 47, 48, 49, 50, 51, 52, 53, 54, 55, 56, 57, 58, 59, 60, 61, 62, 63, 64, 65, 66, 67, 68, 69, 70, 71, 72, 73, 74, 75, 76, 77, 78, 87, 88, 89, 90, 91, 92, 93, 94, 95, 96, 97, 98, 99, 100, 101, 102, 103, 104, 105, 106, 107, 108, 109, 110, 111, 112, 113, 114, 115] (by decide +kernel) (by decide +kernel)
set_option maxRecDepth 20000 in
theorem gX9_save_X8_becomeLike : GoodIn wsX9_save (wsV RX9 234 RX8 yX8_becomeLike wsX8_becomeLike) := goodIn_app (goodIn_of _ (by decide +kernel)) ggX9_save_X8_becomeLike
theorem dX9_save_0 : decode cX9_save 0 = .ok (.iload_n 1, 1) := by decide +kernel
theorem dX9_save_1 : decode cX9_save 1 = .ok (.iconst 0, 1) := by decide +kernel
theorem dX9_save_2 : decode cX9_save 2 = .ok (.iconst 1, 1) := by decide +kernel
theorem dX9_save_3 : decode cX9_save 3 = .ok (.invokestatic 43, 3) := by decide +kernel
theorem dX9_save_6 : decode cX9_save 6 = .ok (.ifCond .ne 6, 3) := by decide +kernel
theorem dX9_save_9 : decode cX9_save 9 = .ok (.bipush (-2), 2) := by decide +kernel
theorem dX9_save_11 : decode cX9_save 11 = .ok (.ireturn, 1) := by decide +kernel
theorem dX9_save_12 : decode cX9_save 12 = .ok (.aload_n 0, 1) := by decide +kernel
theorem dX9_save_13 : decode cX9_save 13 = .ok (.iload_n 1, 1) := by decide +kernel
theorem dX9_save_14 : decode cX9_save 14 = .ok (.invokevirtual 263, 3) := by decide +kernel
theorem dX9_save_17 : decode cX9_save 17 = .ok (.astore_n 2, 1) := by decide +kernel
theorem dX9_save_18 : decode cX9_save 18 = .ok (.aload_n 2, 1) := by decide +kernel
theorem dX9_save_19 : decode cX9_save 19 = .ok (.getfield 267, 3) := by decide +kernel
theorem dX9_save_22 : decode cX9_save 22 = .ok (.aload_n 0, 1) := by decide +kernel
theorem dX9_save_23 : decode cX9_save 23 = .ok (.getfield 10, 3) := by decide +kernel
theorem dX9_save_26 : decode cX9_save 26 = .ok (.invokevirtual 234, 3) := by decide +kernel
theorem dX9_save_29 : decode cX9_save 29 = .ok (.aload_n 2, 1) := by decide +kernel
theorem dX9_save_30 : decode cX9_save 30 = .ok (.iconst 1, 1) := by decide +kernel
theorem dX9_save_31 : decode cX9_save 31 = .ok (.putfield 270, 3) := by decide +kernel
theorem dX9_save_34 : decode cX9_save 34 = .ok (.aload_n 0, 1) := by decide +kernel
theorem dX9_save_35 : decode cX9_save 35 = .ok (.getfield 10, 3) := by decide +kernel
theorem dX9_save_38 : decode cX9_save 38 = .ok (.getfield 133, 3) := by decide +kernel
theorem dX9_save_41 : decode cX9_save 41 = .ok (.ireturn, 1) := by decide +kernel
set_option maxRecDepth 20000 in
theorem ggX9_restore_X9_within : GoodIn wsX9_restore wsX9_within := goodIn_r _ [8] (by decide +kernel) (by decide +kernel)
set_option maxRecDepth 20000 in
theorem gX9_restore_X9_within : GoodIn wsX9_restore (va_wsS RX9 43 yX9_within wsX9_within) := goodIn_app (goodIn_of _ (by decide +kernel)) ggX9_restore_X9_within
set_option maxRecDepth 20000 in
theorem ggX9_restore_X9_slotAt : GoodIn wsX9_restore wsX9_slotAt := goodIn_r _ [12, 13, 14, 81, 82, 83, 84, 85, 86] (by decide +kernel) (by decide +kernel)
set_option maxRecDepth 20000 in
theorem gX9_restore_X9_slotAt : GoodIn wsX9_restore (wsV RX9 263 RX9 yX9_slotAt wsX9_slotAt) := goodIn_app (goodIn_of _ (by decide +kernel)) ggX9_restore_X9_slotAt
set_option maxRecDepth 20000 in
theorem ggX9_restore_X8_becomeLike : GoodIn wsX9_restore wsX8_becomeLike := goodIn_r _ [19, 20, 21, 22, 23, 24, 25, 26, 27, 28, 29, 30, 31, 32, 33, 34, 35, 36, 37, 38, 39, 40, 41, 42, 43, 44, 45, 46, 47, 48, 49, 50, 51, 52, 53, 54, 55, 56, 57, 58, 59, 60, 61, 62, 63, 64, 65, 66, 67, 68, 69, 70, 71, 72, 73, 74, 75, 76, 77, 78, 87, 88, 89, 90, 91, 92, 93, 94, 95, 96, 97, 98, 99, 100, 101, 102, 103, 104, 105, 106, 107, 108, 109, 110, 111, 112, 113, 114, 115] (by decide +kernel) (by decide +kernel)
set_option maxRecDepth 20000 in
theorem gX9_restore_X8_becomeLike : GoodIn wsX9_restore (wsV RX9 234 RX8 yX8_becomeLike wsX8_becomeLike) := goodIn_app (goodIn_of _ (by decide +kernel)) ggX9_restore_X8_becomeLike
theorem dX9_restore_0 : decode cX9_restore 0 = .ok (.iload_n 1, 1) := by decide +kernel
theorem dX9_restore_1 : decode cX9_restore 1 = .ok (.iconst 0, 1) := by decide +kernel
theorem dX9_restore_2 : decode cX9_restore 2 = .ok (.iconst 1, 1) := by decide +kernel
theorem dX9_restore_3 : decode cX9_restore 3 = .ok (.invokestatic 43, 3) := by decide +kernel
theorem dX9_restore_6 : decode cX9_restore 6 = .ok (.ifCond .ne 6, 3) := by decide +kernel
theorem dX9_restore_9 : decode cX9_restore 9 = .ok (.bipush (-2), 2) := by decide +kernel
theorem dX9_restore_11 : decode cX9_restore 11 = .ok (.ireturn, 1) := by decide +kernel
theorem dX9_restore_12 : decode cX9_restore 12 = .ok (.aload_n 0, 1) := by decide +kernel
theorem dX9_restore_13 : decode cX9_restore 13 = .ok (.iload_n 1, 1) := by decide +kernel
theorem dX9_restore_14 : decode cX9_restore 14 = .ok (.invokevirtual 263, 3) := by decide +kernel
theorem dX9_restore_17 : decode cX9_restore 17 = .ok (.astore_n 2, 1) := by decide +kernel
theorem dX9_restore_18 : decode cX9_restore 18 = .ok (.aload_n 2, 1) := by decide +kernel
theorem dX9_restore_19 : decode cX9_restore 19 = .ok (.getfield 270, 3) := by decide +kernel
theorem dX9_restore_22 : decode cX9_restore 22 = .ok (.ifCond .ne 6, 3) := by decide +kernel
theorem dX9_restore_25 : decode cX9_restore 25 = .ok (.bipush (-5), 2) := by decide +kernel
theorem dX9_restore_27 : decode cX9_restore 27 = .ok (.ireturn, 1) := by decide +kernel
theorem dX9_restore_28 : decode cX9_restore 28 = .ok (.aload_n 0, 1) := by decide +kernel
theorem dX9_restore_29 : decode cX9_restore 29 = .ok (.getfield 10, 3) := by decide +kernel
theorem dX9_restore_32 : decode cX9_restore 32 = .ok (.aload_n 2, 1) := by decide +kernel
theorem dX9_restore_33 : decode cX9_restore 33 = .ok (.getfield 267, 3) := by decide +kernel
theorem dX9_restore_36 : decode cX9_restore 36 = .ok (.invokevirtual 234, 3) := by decide +kernel
theorem dX9_restore_39 : decode cX9_restore 39 = .ok (.aload_n 0, 1) := by decide +kernel
theorem dX9_restore_40 : decode cX9_restore 40 = .ok (.getfield 10, 3) := by decide +kernel
theorem dX9_restore_43 : decode cX9_restore 43 = .ok (.getfield 133, 3) := by decide +kernel
theorem dX9_restore_46 : decode cX9_restore 46 = .ok (.ireturn, 1) := by decide +kernel
theorem dX9_slotAt_0 : decode cX9_slotAt 0 = .ok (.iload_n 1, 1) := by decide +kernel
theorem dX9_slotAt_1 : decode cX9_slotAt 1 = .ok (.ifCond .ne 10, 3) := by decide +kernel
theorem dX9_slotAt_4 : decode cX9_slotAt 4 = .ok (.aload_n 0, 1) := by decide +kernel
theorem dX9_slotAt_5 : decode cX9_slotAt 5 = .ok (.getfield 22, 3) := by decide +kernel
theorem dX9_slotAt_8 : decode cX9_slotAt 8 = .ok (.goto 7, 3) := by decide +kernel
theorem dX9_slotAt_11 : decode cX9_slotAt 11 = .ok (.aload_n 0, 1) := by decide +kernel
theorem dX9_slotAt_12 : decode cX9_slotAt 12 = .ok (.getfield 26, 3) := by decide +kernel
theorem dX9_slotAt_15 : decode cX9_slotAt 15 = .ok (.areturn, 1) := by decide +kernel
theorem dX9_within_0 : decode cX9_within 0 = .ok (.iload_n 0, 1) := by decide +kernel
theorem dX9_within_1 : decode cX9_within 1 = .ok (.iload_n 1, 1) := by decide +kernel
theorem dX9_within_2 : decode cX9_within 2 = .ok (.if_icmp .lt 12, 3) := by decide +kernel
theorem dX9_within_5 : decode cX9_within 5 = .ok (.iload_n 0, 1) := by decide +kernel
theorem dX9_within_6 : decode cX9_within 6 = .ok (.iload_n 2, 1) := by decide +kernel
theorem dX9_within_7 : decode cX9_within 7 = .ok (.if_icmp .gt 7, 3) := by decide +kernel
theorem dX9_within_10 : decode cX9_within 10 = .ok (.iconst 1, 1) := by decide +kernel
theorem dX9_within_11 : decode cX9_within 11 = .ok (.goto 4, 3) := by decide +kernel
theorem dX9_within_14 : decode cX9_within 14 = .ok (.iconst 0, 1) := by decide +kernel
theorem dX9_within_15 : decode cX9_within 15 = .ok (.ireturn, 1) := by decide +kernel
theorem dX9_quotient_0 : decode cX9_quotient 0 = .ok (.lload_n 2, 1) := by decide +kernel
theorem dX9_quotient_1 : decode cX9_quotient 1 = .ok (.lconst 1, 1) := by decide +kernel
theorem dX9_quotient_2 : decode cX9_quotient 2 = .ok (.lcmp, 1) := by decide +kernel
theorem dX9_quotient_3 : decode cX9_quotient 3 = .ok (.ifCond .ge 7, 3) := by decide +kernel
theorem dX9_quotient_6 : decode cX9_quotient 6 = .ok (.lconst 0, 1) := by decide +kernel
theorem dX9_quotient_7 : decode cX9_quotient 7 = .ok (.goto 6, 3) := by decide +kernel
theorem dX9_quotient_10 : decode cX9_quotient 10 = .ok (.lload_n 0, 1) := by decide +kernel
theorem dX9_quotient_11 : decode cX9_quotient 11 = .ok (.lload_n 2, 1) := by decide +kernel
theorem dX9_quotient_12 : decode cX9_quotient 12 = .ok (.ldiv, 1) := by decide +kernel
theorem dX9_quotient_13 : decode cX9_quotient 13 = .ok (.lreturn, 1) := by decide +kernel
