theorem dX9_way_0 : decode cX9_way 0 = .ok (.aload_n 0, 1) := by decide +kernel
theorem dX9_way_1 : decode cX9_way 1 = .ok (.getfield 10, 3) := by decide +kernel
theorem dX9_way_4 : decode cX9_way 4 = .ok (.getfield 111, 3) := by decide +kernel
theorem dX9_way_7 : decode cX9_way 7 = .ok (.iload_n 1, 1) := by decide +kernel
theorem dX9_way_8 : decode cX9_way 8 = .ok (.invokevirtual 219, 3) := by decide +kernel
theorem dX9_way_11 : decode cX9_way 11 = .ok (.ifCond .ne 6, 3) := by decide +kernel
theorem dX9_way_14 : decode cX9_way 14 = .ok (.ldc 182, 2) := by decide +kernel
theorem dX9_way_16 : decode cX9_way 16 = .ok (.ireturn, 1) := by decide +kernel
theorem dX9_way_17 : decode cX9_way 17 = .ok (.iload_n 2, 1) := by decide +kernel
theorem dX9_way_18 : decode cX9_way 18 = .ok (.lookupswitch 50 #[(0, 26), (1, 38)], 26) := by decide +kernel
theorem dX9_way_44 : decode cX9_way 44 = .ok (.aload_n 0, 1) := by decide +kernel
theorem dX9_way_45 : decode cX9_way 45 = .ok (.getfield 10, 3) := by decide +kernel
theorem dX9_way_48 : decode cX9_way 48 = .ok (.getfield 111, 3) := by decide +kernel
theorem dX9_way_51 : decode cX9_way 51 = .ok (.iload_n 1, 1) := by decide +kernel
theorem dX9_way_52 : decode cX9_way 52 = .ok (.invokevirtual 223, 3) := by decide +kernel
theorem dX9_way_55 : decode cX9_way 55 = .ok (.ireturn, 1) := by decide +kernel
theorem dX9_way_56 : decode cX9_way 56 = .ok (.aload_n 0, 1) := by decide +kernel
theorem dX9_way_57 : decode cX9_way 57 = .ok (.getfield 10, 3) := by decide +kernel
theorem dX9_way_60 : decode cX9_way 60 = .ok (.getfield 111, 3) := by decide +kernel
theorem dX9_way_63 : decode cX9_way 63 = .ok (.iload_n 1, 1) := by decide +kernel
theorem dX9_way_64 : decode cX9_way 64 = .ok (.invokevirtual 226, 3) := by decide +kernel
theorem dX9_way_67 : decode cX9_way 67 = .ok (.ireturn, 1) := by decide +kernel
theorem dX9_way_68 : decode cX9_way 68 = .ok (.ldc 199, 2) := by decide +kernel
theorem dX9_way_70 : decode cX9_way 70 = .ok (.ireturn, 1) := by decide +kernel
set_option maxRecDepth 20000 in
theorem ggX9_account_X2_iceOfAll : GoodIn wsX9_account wsX2_iceOfAll := goodIn_r _ [13, 14, 15, 16, 33, 34, 35, 36, 37, 38] (by decide +kernel) (by decide +kernel)
set_option maxRecDepth 20000 in
theorem gX9_account_X2_iceOfAll : GoodIn wsX9_account (wsV RX9 165 RX2 yX2_iceOfAll wsX2_iceOfAll) := goodIn_app (goodIn_of _ (by decide +kernel)) ggX9_account_X2_iceOfAll
theorem dX9_account_0 : decode cX9_account 0 = .ok (.iload_n 1, 1) := by decide +kernel
theorem dX9_account_1 : decode cX9_account 1 = .ok (.tableswitch 91 0 5 #[39, 51, 59, 67, 75, 83], 39) := by decide +kernel
theorem dX9_account_40 : decode cX9_account 40 = .ok (.aload_n 0, 1) := by decide +kernel
theorem dX9_account_41 : decode cX9_account 41 = .ok (.getfield 10, 3) := by decide +kernel
theorem dX9_account_44 : decode cX9_account 44 = .ok (.getfield 49, 3) := by decide +kernel
theorem dX9_account_47 : decode cX9_account 47 = .ok (.invokevirtual 165, 3) := by decide +kernel
theorem dX9_account_50 : decode cX9_account 50 = .ok (.i2l, 1) := by decide +kernel
theorem dX9_account_51 : decode cX9_account 51 = .ok (.lreturn, 1) := by decide +kernel
theorem dX9_account_52 : decode cX9_account 52 = .ok (.aload_n 0, 1) := by decide +kernel
theorem dX9_account_53 : decode cX9_account 53 = .ok (.getfield 10, 3) := by decide +kernel
theorem dX9_account_56 : decode cX9_account 56 = .ok (.getfield 73, 3) := by decide +kernel
theorem dX9_account_59 : decode cX9_account 59 = .ok (.lreturn, 1) := by decide +kernel
theorem dX9_account_60 : decode cX9_account 60 = .ok (.aload_n 0, 1) := by decide +kernel
theorem dX9_account_61 : decode cX9_account 61 = .ok (.getfield 10, 3) := by decide +kernel
theorem dX9_account_64 : decode cX9_account 64 = .ok (.getfield 90, 3) := by decide +kernel
theorem dX9_account_67 : decode cX9_account 67 = .ok (.lreturn, 1) := by decide +kernel
theorem dX9_account_68 : decode cX9_account 68 = .ok (.aload_n 0, 1) := by decide +kernel
theorem dX9_account_69 : decode cX9_account 69 = .ok (.getfield 10, 3) := by decide +kernel
theorem dX9_account_72 : decode cX9_account 72 = .ok (.getfield 229, 3) := by decide +kernel
theorem dX9_account_75 : decode cX9_account 75 = .ok (.lreturn, 1) := by decide +kernel
theorem dX9_account_76 : decode cX9_account 76 = .ok (.aload_n 0, 1) := by decide +kernel
theorem dX9_account_77 : decode cX9_account 77 = .ok (.getfield 10, 3) := by decide +kernel
theorem dX9_account_80 : decode cX9_account 80 = .ok (.getfield 169, 3) := by decide +kernel
theorem dX9_account_83 : decode cX9_account 83 = .ok (.lreturn, 1) := by decide +kernel
theorem dX9_account_84 : decode cX9_account 84 = .ok (.aload_n 0, 1) := by decide +kernel
theorem dX9_account_85 : decode cX9_account 85 = .ok (.getfield 10, 3) := by decide +kernel
theorem dX9_account_88 : decode cX9_account 88 = .ok (.getfield 176, 3) := by decide +kernel
theorem dX9_account_91 : decode cX9_account 91 = .ok (.lreturn, 1) := by decide +kernel
theorem dX9_account_92 : decode cX9_account 92 = .ok (.ldc2_w 232, 3) := by decide +kernel
theorem dX9_account_95 : decode cX9_account 95 = .ok (.lreturn, 1) := by decide +kernel
theorem dX9_within_0 : decode cX9_within 0 = .ok (.iload_n 0, 1) := by decide +kernel
theorem dX9_within_1 : decode cX9_within 1 = .ok (.iload_n 1, 1) := by decide +kernel
theorem dX9_within_2 : decode cX9_within 2 = .ok (.if_icmp .lt 12, 3) := by decide +kernel
theorem dX9_within_5 : decode cX9_within 5 = .ok (.iload_n 0, 1) := by decide +kernel
theorem dX9_within_6 : decode cX9_within 6 = .ok (.iload_n 2, 1) := by decide +kernel
theorem dX9_within_7 : decode cX9_within 7 = .ok (.if_icmp .gt 7, 3) := by decide +kernel
theorem dX9_within_10 : decode cX9_within 10 = .ok (.iconst 1, 1) := by decide +kernel
theorem dX9_within_11 : decode cX9_within 11 = .ok (.goto 4, 3) := by decide +kernel
theorem dX9_within_14 : decode cX9_within 14 = .ok (.iconst 0, 1) := by decide +kernel
theorem dX9_within_15 : decode cX9_within 15 = .ok (.ireturn, 1) := by decide +kernel
theorem dX9_quotient_0 : decode cX9_quotient 0 = .ok (.lload_n 2, 1) := by decide +kernel
theorem dX9_quotient_1 : decode cX9_quotient 1 = .ok (.lconst 1, 1) := by decide +kernel
theorem dX9_quotient_2 : decode cX9_quotient 2 = .ok (.lcmp, 1) := by decide +kernel
theorem dX9_quotient_3 : decode cX9_quotient 3 = .ok (.ifCond .ge 7, 3) := by decide +kernel
theorem dX9_quotient_6 : decode cX9_quotient 6 = .ok (.lconst 0, 1) := by decide +kernel
theorem dX9_quotient_7 : decode cX9_quotient 7 = .ok (.goto 6, 3) := by decide +kernel
theorem dX9_quotient_10 : decode cX9_quotient 10 = .ok (.lload_n 0, 1) := by decide +kernel
theorem dX9_quotient_11 : decode cX9_quotient 11 = .ok (.lload_n 2, 1) := by decide +kernel
theorem dX9_quotient_12 : decode cX9_quotient 12 = .ok (.ldiv, 1) := by decide +kernel
theorem dX9_quotient_13 : decode cX9_quotient 13 = .ok (.lreturn, 1) := by decide +kernel
theorem dJ9_max_7cf53_0 : decode cJ9_max_7cf53 0 = .ok (.iload_n 0, 1) := by decide +kernel
theorem dJ9_max_7cf53_1 : decode cJ9_max_7cf53 1 = .ok (.iload_n 1, 1) := by decide +kernel
theorem dJ9_max_7cf53_2 : decode cJ9_max_7cf53 2 = .ok (.if_icmp .lt 7, 3) := by decide +kernel
theorem dJ9_max_7cf53_5 : decode cJ9_max_7cf53 5 = .ok (.iload_n 0, 1) := by decide +kernel
theorem dJ9_max_7cf53_6 : decode cJ9_max_7cf53 6 = .ok (.goto 4, 3) := by decide +kernel
theorem dJ9_max_7cf53_9 : decode cJ9_max_7cf53 9 = .ok (.iload_n 1, 1) := by decide +kernel
theorem dJ9_max_7cf53_10 : decode cJ9_max_7cf53 10 = .ok (.ireturn, 1) := by decide +kernel
theorem dJ9_max_f86c9_0 : decode cJ9_max_f86c9 0 = .ok (.lload_n 0, 1) := by decide +kernel
theorem dJ9_max_f86c9_1 : decode cJ9_max_f86c9 1 = .ok (.lload_n 2, 1) := by decide +kernel
theorem dJ9_max_f86c9_2 : decode cJ9_max_f86c9 2 = .ok (.lcmp, 1) := by decide +kernel
theorem dJ9_max_f86c9_3 : decode cJ9_max_f86c9 3 = .ok (.ifCond .lt 7, 3) := by decide +kernel
theorem dJ9_max_f86c9_6 : decode cJ9_max_f86c9 6 = .ok (.lload_n 0, 1) := by decide +kernel
theorem dJ9_max_f86c9_7 : decode cJ9_max_f86c9 7 = .ok (.goto 4, 3) := by decide +kernel
theorem dJ9_max_f86c9_10 : decode cJ9_max_f86c9 10 = .ok (.lload_n 2, 1) := by decide +kernel
theorem dJ9_max_f86c9_11 : decode cJ9_max_f86c9 11 = .ok (.lreturn, 1) := by decide +kernel
theorem dJ9_min_7cf53_0 : decode cJ9_min_7cf53 0 = .ok (.iload_n 0, 1) := by decide +kernel
theorem dJ9_min_7cf53_1 : decode cJ9_min_7cf53 1 = .ok (.iload_n 1, 1) := by decide +kernel
theorem dJ9_min_7cf53_2 : decode cJ9_min_7cf53 2 = .ok (.if_icmp .gt 7, 3) := by decide +kernel
theorem dJ9_min_7cf53_5 : decode cJ9_min_7cf53 5 = .ok (.iload_n 0, 1) := by decide +kernel
theorem dJ9_min_7cf53_6 : decode cJ9_min_7cf53 6 = .ok (.goto 4, 3) := by decide +kernel
theorem dJ9_min_7cf53_9 : decode cJ9_min_7cf53 9 = .ok (.iload_n 1, 1) := by decide +kernel
theorem dJ9_min_7cf53_10 : decode cJ9_min_7cf53 10 = .ok (.ireturn, 1) := by decide +kernel
theorem dJ9_min_f86c9_0 : decode cJ9_min_f86c9 0 = .ok (.lload_n 0, 1) := by decide +kernel
theorem dJ9_min_f86c9_1 : decode cJ9_min_f86c9 1 = .ok (.lload_n 2, 1) := by decide +kernel
theorem dJ9_min_f86c9_2 : decode cJ9_min_f86c9 2 = .ok (.lcmp, 1) := by decide +kernel
theorem dJ9_min_f86c9_3 : decode cJ9_min_f86c9 3 = .ok (.ifCond .gt 7, 3) := by decide +kernel
theorem dJ9_min_f86c9_6 : decode cJ9_min_f86c9 6 = .ok (.lload_n 0, 1) := by decide +kernel
theorem dJ9_min_f86c9_7 : decode cJ9_min_f86c9 7 = .ok (.goto 4, 3) := by decide +kernel
theorem dJ9_min_f86c9_10 : decode cJ9_min_f86c9 10 = .ok (.lload_n 2, 1) := by decide +kernel
theorem dJ9_min_f86c9_11 : decode cJ9_min_f86c9 11 = .ok (.lreturn, 1) := by decide +kernel
theorem dL_cell_0 : decode cL_cell 0 = .ok (.aload_n 0, 1) := by decide +kernel
theorem dL_cell_1 : decode cL_cell 1 = .ok (.arraylength, 1) := by decide +kernel
theorem dL_cell_2 : decode cL_cell 2 = .ok (.ifCond .ne 12, 3) := by decide +kernel
theorem dL_cell_5 : decode cL_cell 5 = .ok (.iload_n 1, 1) := by decide +kernel
theorem dL_cell_6 : decode cL_cell 6 = .ok (.bipush 37, 2) := by decide +kernel
theorem dL_cell_8 : decode cL_cell 8 = .ok (.imul, 1) := by decide +kernel
theorem dL_cell_9 : decode cL_cell 9 = .ok (.iconst 5, 1) := by decide +kernel
theorem dL_cell_10 : decode cL_cell 10 = .ok (.iadd, 1) := by decide +kernel
theorem dL_cell_11 : decode cL_cell 11 = .ok (.goto 17, 3) := by decide +kernel
theorem dL_cell_14 : decode cL_cell 14 = .ok (.aload_n 0, 1) := by decide +kernel
theorem dL_cell_15 : decode cL_cell 15 = .ok (.iload_n 1, 1) := by decide +kernel
theorem dL_cell_16 : decode cL_cell 16 = .ok (.aload_n 0, 1) := by decide +kernel
theorem dL_cell_17 : decode cL_cell 17 = .ok (.arraylength, 1) := by decide +kernel
theorem dL_cell_18 : decode cL_cell 18 = .ok (.irem, 1) := by decide +kernel
theorem dL_cell_19 : decode cL_cell 19 = .ok (.iaload, 1) := by decide +kernel
theorem dL_cell_20 : decode cL_cell 20 = .ok (.iload_n 1, 1) := by decide +kernel
theorem dL_cell_21 : decode cL_cell 21 = .ok (.bipush 7, 2) := by decide +kernel
theorem dL_cell_23 : decode cL_cell 23 = .ok (.irem, 1) := by decide +kernel
theorem dL_cell_24 : decode cL_cell 24 = .ok (.ishr, 1) := by decide +kernel
theorem dL_cell_25 : decode cL_cell 25 = .ok (.ldc 7, 2) := by decide +kernel
theorem dL_cell_27 : decode cL_cell 27 = .ok (.iand, 1) := by decide +kernel
theorem dL_cell_28 : decode cL_cell 28 = .ok (.iload_n 2, 1) := by decide +kernel
theorem dL_cell_29 : decode cL_cell 29 = .ok (.irem, 1) := by decide +kernel
theorem dL_cell_30 : decode cL_cell 30 = .ok (.ireturn, 1) := by decide +kernel
set_option maxRecDepth 20000 in
theorem ggL_goesOff_X9_van : GoodIn wsL_goesOff wsX9_van := goodIn_r _ [7, 8, 9, 10, 11, 12, 13, 14, 15, 16, 17, 18, 19, 20, 21, 22, 23, 24, 25, 26, 27, 28, 29, 30, 6, 31, 32, 33, 34, 35, 36, 37, 38, 39, 40, 41, 42, 43, 44, 45, 46, 47, 48, 49, 50, 51, 52, 53, 54, 55, 56, 57, 58, 59, 60, 61, 62, 63, 64, 65, 66, 97, 98, 99, 100, 101, 102, 103, 104, 105, 106, 107, 108, 109, 110, 111, 112, 113, 114, 115, 116, 117, 118, 119, 120, 121, 122, 123, 124, 125, 126, 127, 128, 129] (by decide +kernel) (by decide +kernel)
set_option maxRecDepth 20000 in
theorem gL_goesOff_X9_van : GoodIn wsL_goesOff (wsV RL 8 RX9 yX9_van wsX9_van) := goodIn_app (goodIn_of _ (by decide +kernel)) ggL_goesOff_X9_van
set_option maxRecDepth 20000 in
theorem ggL_goesOff_X9_box : GoodIn wsL_goesOff wsX9_box := goodIn_r _ [70, 9, 24, 71, 72, 73, 74, 12, 13, 10, 75, 76, 77, 78, 79, 80, 81, 30, 6, 31, 32, 33, 34, 35, 36, 37, 82, 83, 84, 85, 86, 87, 88, 89, 90, 91, 92, 93, 94, 95, 96, 65, 66, 97, 98, 99, 100, 101, 102, 103, 104, 105, 106, 107, 108, 109, 110, 111, 112, 130, 131, 132, 133, 113, 114, 115, 116, 117, 118, 119, 125, 126, 129] (by decide +kernel) (by decide +kernel)
set_option maxRecDepth 20000 in
theorem gL_goesOff_X9_box : GoodIn wsL_goesOff (wsV RL 18 RX9 yX9_box wsX9_box) := goodIn_app (goodIn_of _ (by decide +kernel)) ggL_goesOff_X9_box
theorem dL_goesOff_0 : decode cL_goesOff 0 = .ok (.aload_n 0, 1) := by decide +kernel
theorem dL_goesOff_1 : decode cL_goesOff 1 = .ok (.iconst 1, 1) := by decide +kernel
theorem dL_goesOff_2 : decode cL_goesOff 2 = .ok (.invokevirtual 8, 3) := by decide +kernel
theorem dL_goesOff_5 : decode cL_goesOff 5 = .ok (.i2l, 1) := by decide +kernel
theorem dL_goesOff_6 : decode cL_goesOff 6 = .ok (.ldc2_w 14, 3) := by decide +kernel
theorem dL_goesOff_9 : decode cL_goesOff 9 = .ok (.ladd, 1) := by decide +kernel
theorem dL_goesOff_10 : decode cL_goesOff 10 = .ok (.aload_n 0, 1) := by decide +kernel
theorem dL_goesOff_11 : decode cL_goesOff 11 = .ok (.bipush 15, 2) := by decide +kernel
theorem dL_goesOff_13 : decode cL_goesOff 13 = .ok (.invokevirtual 8, 3) := by decide +kernel
theorem dL_goesOff_16 : decode cL_goesOff 16 = .ok (.i2l, 1) := by decide +kernel
theorem dL_goesOff_17 : decode cL_goesOff 17 = .ok (.lmul, 1) := by decide +kernel
theorem dL_goesOff_18 : decode cL_goesOff 18 = .ok (.ldc2_w 16, 3) := by decide +kernel
theorem dL_goesOff_21 : decode cL_goesOff 21 = .ok (.aload_n 0, 1) := by decide +kernel
theorem dL_goesOff_22 : decode cL_goesOff 22 = .ok (.iload_n 1, 1) := by decide +kernel
theorem dL_goesOff_23 : decode cL_goesOff 23 = .ok (.iconst 0, 1) := by decide +kernel
theorem dL_goesOff_24 : decode cL_goesOff 24 = .ok (.invokevirtual 18, 3) := by decide +kernel
theorem dL_goesOff_27 : decode cL_goesOff 27 = .ok (.i2l, 1) := by decide +kernel
theorem dL_goesOff_28 : decode cL_goesOff 28 = .ok (.lmul, 1) := by decide +kernel
theorem dL_goesOff_29 : decode cL_goesOff 29 = .ok (.ldiv, 1) := by decide +kernel
theorem dL_goesOff_30 : decode cL_goesOff 30 = .ok (.lstore_n 2, 1) := by decide +kernel
theorem dL_goesOff_31 : decode cL_goesOff 31 = .ok (.lload_n 2, 1) := by decide +kernel
theorem dL_goesOff_32 : decode cL_goesOff 32 = .ok (.lconst 0, 1) := by decide +kernel
theorem dL_goesOff_33 : decode cL_goesOff 33 = .ok (.lcmp, 1) := by decide +kernel
theorem dL_goesOff_34 : decode cL_goesOff 34 = .ok (.ifCond .ge 7, 3) := by decide +kernel
theorem dL_goesOff_37 : decode cL_goesOff 37 = .ok (.lconst 0, 1) := by decide +kernel
theorem dL_goesOff_38 : decode cL_goesOff 38 = .ok (.goto 26, 3) := by decide +kernel
theorem dL_goesOff_41 : decode cL_goesOff 41 = .ok (.lload_n 2, 1) := by decide +kernel
theorem dL_goesOff_42 : decode cL_goesOff 42 = .ok (.aload_n 0, 1) := by decide +kernel
theorem dL_goesOff_43 : decode cL_goesOff 43 = .ok (.iload_n 1, 1) := by decide +kernel
theorem dL_goesOff_44 : decode cL_goesOff 44 = .ok (.iconst 2, 1) := by decide +kernel
theorem dL_goesOff_45 : decode cL_goesOff 45 = .ok (.invokevirtual 18, 3) := by decide +kernel
theorem dL_goesOff_48 : decode cL_goesOff 48 = .ok (.i2l, 1) := by decide +kernel
theorem dL_goesOff_49 : decode cL_goesOff 49 = .ok (.lcmp, 1) := by decide +kernel
theorem dL_goesOff_50 : decode cL_goesOff 50 = .ok (.ifCond .le 13, 3) := by decide +kernel
theorem dL_goesOff_53 : decode cL_goesOff 53 = .ok (.aload_n 0, 1) := by decide +kernel
theorem dL_goesOff_54 : decode cL_goesOff 54 = .ok (.iload_n 1, 1) := by decide +kernel
theorem dL_goesOff_55 : decode cL_goesOff 55 = .ok (.iconst 2, 1) := by decide +kernel
theorem dL_goesOff_56 : decode cL_goesOff 56 = .ok (.invokevirtual 18, 3) := by decide +kernel
theorem dL_goesOff_59 : decode cL_goesOff 59 = .ok (.i2l, 1) := by decide +kernel
theorem dL_goesOff_60 : decode cL_goesOff 60 = .ok (.goto 4, 3) := by decide +kernel
theorem dL_goesOff_63 : decode cL_goesOff 63 = .ok (.lload_n 2, 1) := by decide +kernel
theorem dL_goesOff_64 : decode cL_goesOff 64 = .ok (.lreturn, 1) := by decide +kernel
set_option maxRecDepth 20000 in
theorem ggL_isMinute_X9_van : GoodIn wsL_isMinute wsX9_van := goodIn_r _ [9, 10, 11, 12, 13, 14, 15, 16, 17, 18, 19, 20, 21, 22, 23, 24, 25, 26, 27, 28, 29, 30, 31, 32, 8, 33, 34, 35, 36, 37, 38, 39, 40, 41, 42, 43, 44, 45, 46, 47, 48, 49, 50, 51, 52, 53, 54, 55, 56, 57, 58, 59, 60, 61, 62, 63, 64, 65, 66, 67, 68, 203, 204, 205, 206, 207, 208, 209, 210, 211, 212, 213, 214, 215, 216, 217, 218, 219, 220, 221, 222, 223, 224, 225, 226, 227, 228, 229, 230, 231, 232, 233, 234, 235] (by decide +kernel) (by decide +kernel)
set_option maxRecDepth 20000 in
theorem gL_isMinute_X9_van : GoodIn wsL_isMinute (wsV RL 8 RX9 yX9_van wsX9_van) := goodIn_app (goodIn_of _ (by decide +kernel)) ggL_isMinute_X9_van
set_option maxRecDepth 20000 in
theorem ggL_isMinute_L_goesOff : GoodIn wsL_isMinute wsL_goesOff := goodIn_r _ [72, 73, 74, 5, 6, 7, 8, 9, 10, 11, 12, 13, 14, 15, 16, 17, 18, 19, 20, 21, 22, 23, 24, 25, 26, 27, 28, 29, 30, 31, 32, 33, 34, 35, 36, 37, 38, 39, 40, 41, 42, 43, 44, 45, 46, 47, 48, 49, 50, 51, 52, 53, 54, 55, 56, 57, 58, 59, 60, 61, 62, 63, 64, 65, 66, 67, 68, 75, 76, 77, 78, 79, 80, 81, 82, 83, 84, 85, 86, 87, 88, 89, 90, 91, 92, 93, 94, 95, 96, 97, 98, 99, 100, 101, 102, 103, 104, 203, 204, 205, 206, 207, 208, 209, 210, 211, 212, 213, 214, 215, 216, 217, 218, 219, 220, 221, 222, 223, 224, 225, 226, 227, 228, 229, 230, 231, 232, 233, 234, 235, 236, 237, 238, 239] (by decide +kernel) (by decide +kernel)
set_option maxRecDepth 20000 in
theorem gL_isMinute_L_goesOff : GoodIn wsL_isMinute (va_wsS RL 22 yL_goesOff wsL_goesOff) := goodIn_app (goodIn_of _ (by decide +kernel)) ggL_isMinute_L_goesOff
set_option maxRecDepth 20000 in
theorem ggL_isMinute_X9_box : GoodIn wsL_isMinute wsX9_box := goodIn_r _ [78, 11, 26, 79, 80, 81, 82, 14, 15, 12, 83, 84, 85, 86, 87, 88, 89, 32, 8, 33, 34, 35, 36, 37, 38, 39, 90, 91, 92, 93, 94, 95, 96, 97, 98, 99, 100, 101, 102, 103, 104, 67, 68, 203, 204, 205, 206, 207, 208, 209, 210, 211, 212, 213, 214, 215, 216, 217, 218, 236, 237, 238, 239, 219, 220, 221, 222, 223, 224, 225, 231, 232, 235] (by decide +kernel) (by decide +kernel)
set_option maxRecDepth 20000 in
theorem gL_isMinute_X9_box : GoodIn wsL_isMinute (wsV RL 18 RX9 yX9_box wsX9_box) := goodIn_app (goodIn_of _ (by decide +kernel)) ggL_isMinute_X9_box
set_option maxRecDepth 20000 in
theorem ggL_isMinute_X9_account : GoodIn wsL_isMinute wsX9_account := goodIn_r _ [108, 11, 26, 109, 110, 111, 112, 113, 114, 115, 116, 117, 86, 118, 88, 89, 119, 203, 204, 205, 206, 207, 208, 209, 210, 211, 212, 213, 214, 215, 216, 217, 218, 231, 232, 236, 237, 238, 239] (by decide +kernel) (by decide +kernel)
set_option maxRecDepth 20000 in
theorem gL_isMinute_X9_account : GoodIn wsL_isMinute (wsV RL 34 RX9 yX9_account wsX9_account) := goodIn_app (goodIn_of _ (by decide +kernel)) ggL_isMinute_X9_account
set_option maxRecDepth 20000 in
theorem ggL_isMinute_X9_pass : GoodIn wsL_isMinute wsX9_pass := goodIn_r _ [123, 11, 13, 124, 16, 24, 125, 126, 99, 127, 31, 32, 8, 33, 128, 129, 130, 55, 131, 132, 133, 134, 135, 136, 57, 137, 58, 138, 139, 140, 141, 35, 36, 37, 38, 39, 142, 143, 144, 86, 145, 88, 89, 146, 91, 92, 93, 94, 95, 96, 97, 98, 100, 101, 102, 103, 104, 67, 68, 147, 148, 149, 150, 151, 152, 153, 154, 155, 41, 42, 43, 44, 45, 46, 47, 48, 49, 50, 51, 156, 157, 158, 62, 159, 64, 160, 161, 162, 163, 164, 165, 166, 167, 168, 169, 66, 170, 171, 172, 173, 174, 175, 60, 61, 63, 65, 176, 177, 178, 179, 180, 181, 182, 183, 184, 185, 186, 187, 188, 189, 190, 191, 192, 193, 194, 195, 196, 197, 198, 199, 200, 201, 202, 203, 204, 205, 206, 207, 208, 209, 210, 211, 212, 213, 214, 215, 216, 217, 218, 226, 227, 228, 229, 230, 219, 220, 221, 222, 223, 224, 225, 235, 231, 232, 236, 237, 238, 239] (by decide +kernel) (by decide +kernel)
set_option maxRecDepth 20000 in
theorem gL_isMinute_X9_pass : GoodIn wsL_isMinute (wsV RL 38 RX9 yX9_pass wsX9_pass) := goodIn_app (goodIn_of _ (by decide +kernel)) ggL_isMinute_X9_pass
theorem dL_isMinute_0 : decode cL_isMinute 0 = .ok (.aload_n 0, 1) := by decide +kernel
theorem dL_isMinute_1 : decode cL_isMinute 1 = .ok (.bipush 12, 2) := by decide +kernel
theorem dL_isMinute_3 : decode cL_isMinute 3 = .ok (.invokevirtual 8, 3) := by decide +kernel
theorem dL_isMinute_6 : decode cL_isMinute 6 = .ok (.istore_n 1, 1) := by decide +kernel
theorem dL_isMinute_7 : decode cL_isMinute 7 = .ok (.bipush 10, 2) := by decide +kernel
theorem dL_isMinute_9 : decode cL_isMinute 9 = .ok (.newarray .int, 2) := by decide +kernel
theorem dL_isMinute_11 : decode cL_isMinute 11 = .ok (.astore_n 2, 1) := by decide +kernel
theorem dL_isMinute_12 : decode cL_isMinute 12 = .ok (.bipush 10, 2) := by decide +kernel
theorem dL_isMinute_14 : decode cL_isMinute 14 = .ok (.newarray .int, 2) := by decide +kernel
theorem dL_isMinute_16 : decode cL_isMinute 16 = .ok (.astore_n 3, 1) := by decide +kernel
theorem dL_isMinute_17 : decode cL_isMinute 17 = .ok (.lconst 0, 1) := by decide +kernel
theorem dL_isMinute_18 : decode cL_isMinute 18 = .ok (.lstore 4, 2) := by decide +kernel
theorem dL_isMinute_20 : decode cL_isMinute 20 = .ok (.iconst 0, 1) := by decide +kernel
theorem dL_isMinute_21 : decode cL_isMinute 21 = .ok (.istore 6, 2) := by decide +kernel
theorem dL_isMinute_23 : decode cL_isMinute 23 = .ok (.iload 6, 2) := by decide +kernel
theorem dL_isMinute_25 : decode cL_isMinute 25 = .ok (.iload_n 1, 1) := by decide +kernel
theorem dL_isMinute_26 : decode cL_isMinute 26 = .ok (.if_icmp .ge 88, 3) := by decide +kernel
theorem dL_isMinute_29 : decode cL_isMinute 29 = .ok (.aload_n 0, 1) := by decide +kernel
theorem dL_isMinute_30 : decode cL_isMinute 30 = .ok (.iload 6, 2) := by decide +kernel
theorem dL_isMinute_32 : decode cL_isMinute 32 = .ok (.invokestatic 22, 3) := by decide +kernel
theorem dL_isMinute_35 : decode cL_isMinute 35 = .ok (.lstore 7, 2) := by decide +kernel
theorem dL_isMinute_37 : decode cL_isMinute 37 = .ok (.aload_n 0, 1) := by decide +kernel
theorem dL_isMinute_38 : decode cL_isMinute 38 = .ok (.iload 6, 2) := by decide +kernel
theorem dL_isMinute_40 : decode cL_isMinute 40 = .ok (.iconst 4, 1) := by decide +kernel
theorem dL_isMinute_41 : decode cL_isMinute 41 = .ok (.invokevirtual 18, 3) := by decide +kernel
theorem dL_isMinute_44 : decode cL_isMinute 44 = .ok (.i2l, 1) := by decide +kernel
theorem dL_isMinute_45 : decode cL_isMinute 45 = .ok (.lload 7, 2) := by decide +kernel
theorem dL_isMinute_47 : decode cL_isMinute 47 = .ok (.lcmp, 1) := by decide +kernel
theorem dL_isMinute_48 : decode cL_isMinute 48 = .ok (.ifCond .eq 5, 3) := by decide +kernel
theorem dL_isMinute_51 : decode cL_isMinute 51 = .ok (.iconst 0, 1) := by decide +kernel
theorem dL_isMinute_52 : decode cL_isMinute 52 = .ok (.ireturn, 1) := by decide +kernel
theorem dL_isMinute_53 : decode cL_isMinute 53 = .ok (.aload_n 2, 1) := by decide +kernel
theorem dL_isMinute_54 : decode cL_isMinute 54 = .ok (.iload 6, 2) := by decide +kernel
theorem dL_isMinute_56 : decode cL_isMinute 56 = .ok (.aload_n 0, 1) := by decide +kernel
theorem dL_isMinute_57 : decode cL_isMinute 57 = .ok (.iload 6, 2) := by decide +kernel
theorem dL_isMinute_59 : decode cL_isMinute 59 = .ok (.iconst 2, 1) := by decide +kernel
theorem dL_isMinute_60 : decode cL_isMinute 60 = .ok (.invokevirtual 18, 3) := by decide +kernel
theorem dL_isMinute_63 : decode cL_isMinute 63 = .ok (.lload 7, 2) := by decide +kernel
theorem dL_isMinute_65 : decode cL_isMinute 65 = .ok (.l2i, 1) := by decide +kernel
theorem dL_isMinute_66 : decode cL_isMinute 66 = .ok (.isub, 1) := by decide +kernel
theorem dL_isMinute_67 : decode cL_isMinute 67 = .ok (.iastore, 1) := by decide +kernel
theorem dL_isMinute_68 : decode cL_isMinute 68 = .ok (.aload_n 3, 1) := by decide +kernel
theorem dL_isMinute_69 : decode cL_isMinute 69 = .ok (.iload 6, 2) := by decide +kernel
theorem dL_isMinute_71 : decode cL_isMinute 71 = .ok (.aload_n 0, 1) := by decide +kernel
theorem dL_isMinute_72 : decode cL_isMinute 72 = .ok (.iload 6, 2) := by decide +kernel
theorem dL_isMinute_74 : decode cL_isMinute 74 = .ok (.iconst 3, 1) := by decide +kernel
theorem dL_isMinute_75 : decode cL_isMinute 75 = .ok (.invokevirtual 18, 3) := by decide +kernel
theorem dL_isMinute_78 : decode cL_isMinute 78 = .ok (.lload 7, 2) := by decide +kernel
theorem dL_isMinute_80 : decode cL_isMinute 80 = .ok (.l2i, 1) := by decide +kernel
theorem dL_isMinute_81 : decode cL_isMinute 81 = .ok (.isub, 1) := by decide +kernel
theorem dL_isMinute_82 : decode cL_isMinute 82 = .ok (.ifCond .ge 7, 3) := by decide +kernel
theorem dL_isMinute_85 : decode cL_isMinute 85 = .ok (.iconst 0, 1) := by decide +kernel
theorem dL_isMinute_86 : decode cL_isMinute 86 = .ok (.goto 14, 3) := by decide +kernel
theorem dL_isMinute_89 : decode cL_isMinute 89 = .ok (.aload_n 0, 1) := by decide +kernel
theorem dL_isMinute_90 : decode cL_isMinute 90 = .ok (.iload 6, 2) := by decide +kernel
theorem dL_isMinute_92 : decode cL_isMinute 92 = .ok (.iconst 3, 1) := by decide +kernel
theorem dL_isMinute_93 : decode cL_isMinute 93 = .ok (.invokevirtual 18, 3) := by decide +kernel
theorem dL_isMinute_96 : decode cL_isMinute 96 = .ok (.lload 7, 2) := by decide +kernel
theorem dL_isMinute_98 : decode cL_isMinute 98 = .ok (.l2i, 1) := by decide +kernel
theorem dL_isMinute_99 : decode cL_isMinute 99 = .ok (.isub, 1) := by decide +kernel
theorem dL_isMinute_100 : decode cL_isMinute 100 = .ok (.iastore, 1) := by decide +kernel
theorem dL_isMinute_101 : decode cL_isMinute 101 = .ok (.lload 4, 2) := by decide +kernel
theorem dL_isMinute_103 : decode cL_isMinute 103 = .ok (.lload 7, 2) := by decide +kernel
theorem dL_isMinute_105 : decode cL_isMinute 105 = .ok (.ladd, 1) := by decide +kernel
theorem dL_isMinute_106 : decode cL_isMinute 106 = .ok (.lstore 4, 2) := by decide +kernel
theorem dL_isMinute_108 : decode cL_isMinute 108 = .ok (.iinc 6 1, 3) := by decide +kernel
theorem dL_isMinute_111 : decode cL_isMinute 111 = .ok (.goto (-88), 3) := by decide +kernel
theorem dL_isMinute_114 : decode cL_isMinute 114 = .ok (.aload_n 0, 1) := by decide +kernel
theorem dL_isMinute_115 : decode cL_isMinute 115 = .ok (.iconst 2, 1) := by decide +kernel
theorem dL_isMinute_116 : decode cL_isMinute 116 = .ok (.invokevirtual 8, 3) := by decide +kernel
theorem dL_isMinute_119 : decode cL_isMinute 119 = .ok (.istore 6, 2) := by decide +kernel
theorem dL_isMinute_121 : decode cL_isMinute 121 = .ok (.aload_n 0, 1) := by decide +kernel
theorem dL_isMinute_122 : decode cL_isMinute 122 = .ok (.bipush 24, 2) := by decide +kernel
theorem dL_isMinute_124 : decode cL_isMinute 124 = .ok (.invokevirtual 8, 3) := by decide +kernel
theorem dL_isMinute_127 : decode cL_isMinute 127 = .ok (.istore 7, 2) := by decide +kernel
theorem dL_isMinute_129 : decode cL_isMinute 129 = .ok (.aload_n 0, 1) := by decide +kernel
theorem dL_isMinute_130 : decode cL_isMinute 130 = .ok (.bipush 6, 2) := by decide +kernel
theorem dL_isMinute_132 : decode cL_isMinute 132 = .ok (.invokevirtual 8, 3) := by decide +kernel
theorem dL_isMinute_135 : decode cL_isMinute 135 = .ok (.istore 8, 2) := by decide +kernel
theorem dL_isMinute_137 : decode cL_isMinute 137 = .ok (.aload_n 0, 1) := by decide +kernel
theorem dL_isMinute_138 : decode cL_isMinute 138 = .ok (.bipush 8, 2) := by decide +kernel
theorem dL_isMinute_140 : decode cL_isMinute 140 = .ok (.invokevirtual 8, 3) := by decide +kernel
theorem dL_isMinute_143 : decode cL_isMinute 143 = .ok (.istore 9, 2) := by decide +kernel
theorem dL_isMinute_145 : decode cL_isMinute 145 = .ok (.aload_n 0, 1) := by decide +kernel
theorem dL_isMinute_146 : decode cL_isMinute 146 = .ok (.iconst 5, 1) := by decide +kernel
theorem dL_isMinute_147 : decode cL_isMinute 147 = .ok (.invokevirtual 8, 3) := by decide +kernel
theorem dL_isMinute_150 : decode cL_isMinute 150 = .ok (.istore 10, 2) := by decide +kernel
theorem dL_isMinute_152 : decode cL_isMinute 152 = .ok (.aload_n 0, 1) := by decide +kernel
theorem dL_isMinute_153 : decode cL_isMinute 153 = .ok (.bipush 7, 2) := by decide +kernel
theorem dL_isMinute_155 : decode cL_isMinute 155 = .ok (.invokevirtual 8, 3) := by decide +kernel
theorem dL_isMinute_158 : decode cL_isMinute 158 = .ok (.istore 11, 2) := by decide +kernel
theorem dL_isMinute_160 : decode cL_isMinute 160 = .ok (.aload_n 0, 1) := by decide +kernel
theorem dL_isMinute_161 : decode cL_isMinute 161 = .ok (.iconst 1, 1) := by decide +kernel
theorem dL_isMinute_162 : decode cL_isMinute 162 = .ok (.invokevirtual 8, 3) := by decide +kernel
theorem dL_isMinute_165 : decode cL_isMinute 165 = .ok (.istore 12, 2) := by decide +kernel
theorem dL_isMinute_167 : decode cL_isMinute 167 = .ok (.iload 12, 2) := by decide +kernel
theorem dL_isMinute_169 : decode cL_isMinute 169 = .ok (.iload 6, 2) := by decide +kernel
theorem dL_isMinute_171 : decode cL_isMinute 171 = .ok (.iload 12, 2) := by decide +kernel
theorem dL_isMinute_173 : decode cL_isMinute 173 = .ok (.isub, 1) := by decide +kernel
theorem dL_isMinute_174 : decode cL_isMinute 174 = .ok (.iload 7, 2) := by decide +kernel
theorem dL_isMinute_176 : decode cL_isMinute 176 = .ok (.idiv, 1) := by decide +kernel
theorem dL_isMinute_177 : decode cL_isMinute 177 = .ok (.iadd, 1) := by decide +kernel
theorem dL_isMinute_178 : decode cL_isMinute 178 = .ok (.istore 12, 2) := by decide +kernel
theorem dL_isMinute_180 : decode cL_isMinute 180 = .ok (.iload 12, 2) := by decide +kernel
theorem dL_isMinute_182 : decode cL_isMinute 182 = .ok (.iload 8, 2) := by decide +kernel
theorem dL_isMinute_184 : decode cL_isMinute 184 = .ok (.iconst 1, 1) := by decide +kernel
theorem dL_isMinute_185 : decode cL_isMinute 185 = .ok (.if_icmp .ne 14, 3) := by decide +kernel
theorem dL_isMinute_188 : decode cL_isMinute 188 = .ok (.iload 6, 2) := by decide +kernel
theorem dL_isMinute_190 : decode cL_isMinute 190 = .ok (.iload 12, 2) := by decide +kernel
theorem dL_isMinute_192 : decode cL_isMinute 192 = .ok (.isub, 1) := by decide +kernel
theorem dL_isMinute_193 : decode cL_isMinute 193 = .ok (.iload 7, 2) := by decide +kernel
theorem dL_isMinute_195 : decode cL_isMinute 195 = .ok (.idiv, 1) := by decide +kernel
theorem dL_isMinute_196 : decode cL_isMinute 196 = .ok (.goto 4, 3) := by decide +kernel
theorem dL_isMinute_199 : decode cL_isMinute 199 = .ok (.iconst 0, 1) := by decide +kernel
theorem dL_isMinute_200 : decode cL_isMinute 200 = .ok (.iadd, 1) := by decide +kernel
theorem dL_isMinute_201 : decode cL_isMinute 201 = .ok (.istore 12, 2) := by decide +kernel
theorem dL_isMinute_203 : decode cL_isMinute 203 = .ok (.iload 12, 2) := by decide +kernel
theorem dL_isMinute_205 : decode cL_isMinute 205 = .ok (.iload 9, 2) := by decide +kernel
theorem dL_isMinute_207 : decode cL_isMinute 207 = .ok (.iconst 1, 1) := by decide +kernel
theorem dL_isMinute_208 : decode cL_isMinute 208 = .ok (.if_icmp .ne 13, 3) := by decide +kernel
theorem dL_isMinute_211 : decode cL_isMinute 211 = .ok (.iload 6, 2) := by decide +kernel
theorem dL_isMinute_213 : decode cL_isMinute 213 = .ok (.iload 12, 2) := by decide +kernel
theorem dL_isMinute_215 : decode cL_isMinute 215 = .ok (.isub, 1) := by decide +kernel
theorem dL_isMinute_216 : decode cL_isMinute 216 = .ok (.iconst 4, 1) := by decide +kernel
theorem dL_isMinute_217 : decode cL_isMinute 217 = .ok (.idiv, 1) := by decide +kernel
theorem dL_isMinute_218 : decode cL_isMinute 218 = .ok (.goto 4, 3) := by decide +kernel
theorem dL_isMinute_221 : decode cL_isMinute 221 = .ok (.iconst 0, 1) := by decide +kernel
theorem dL_isMinute_222 : decode cL_isMinute 222 = .ok (.iadd, 1) := by decide +kernel
theorem dL_isMinute_223 : decode cL_isMinute 223 = .ok (.istore 12, 2) := by decide +kernel
theorem dL_isMinute_225 : decode cL_isMinute 225 = .ok (.iload 12, 2) := by decide +kernel
theorem dL_isMinute_227 : decode cL_isMinute 227 = .ok (.i2l, 1) := by decide +kernel
theorem dL_isMinute_228 : decode cL_isMinute 228 = .ok (.lload 4, 2) := by decide +kernel
theorem dL_isMinute_230 : decode cL_isMinute 230 = .ok (.aload_n 0, 1) := by decide +kernel
theorem dL_isMinute_231 : decode cL_isMinute 231 = .ok (.bipush 25, 2) := by decide +kernel
theorem dL_isMinute_233 : decode cL_isMinute 233 = .ok (.invokevirtual 8, 3) := by decide +kernel
theorem dL_isMinute_236 : decode cL_isMinute 236 = .ok (.i2l, 1) := by decide +kernel
theorem dL_isMinute_237 : decode cL_isMinute 237 = .ok (.ldiv, 1) := by decide +kernel
theorem dL_isMinute_238 : decode cL_isMinute 238 = .ok (.lsub, 1) := by decide +kernel
theorem dL_isMinute_239 : decode cL_isMinute 239 = .ok (.lstore 13, 2) := by decide +kernel
theorem dL_isMinute_241 : decode cL_isMinute 241 = .ok (.iload 12, 2) := by decide +kernel
theorem dL_isMinute_243 : decode cL_isMinute 243 = .ok (.sipush (-7900), 3) := by decide +kernel
theorem dL_isMinute_246 : decode cL_isMinute 246 = .ok (.if_icmp .gt 8, 3) := by decide +kernel
theorem dL_isMinute_249 : decode cL_isMinute 249 = .ok (.iload 12, 2) := by decide +kernel
theorem dL_isMinute_251 : decode cL_isMinute 251 = .ok (.goto 21, 3) := by decide +kernel
theorem dL_isMinute_254 : decode cL_isMinute 254 = .ok (.lload 13, 2) := by decide +kernel
theorem dL_isMinute_256 : decode cL_isMinute 256 = .ok (.ldc2_w 28, 3) := by decide +kernel
theorem dL_isMinute_259 : decode cL_isMinute 259 = .ok (.lcmp, 1) := by decide +kernel
theorem dL_isMinute_260 : decode cL_isMinute 260 = .ok (.ifCond .ge 9, 3) := by decide +kernel
theorem dL_isMinute_263 : decode cL_isMinute 263 = .ok (.sipush (-7900), 3) := by decide +kernel
theorem dL_isMinute_266 : decode cL_isMinute 266 = .ok (.goto 6, 3) := by decide +kernel
theorem dL_isMinute_269 : decode cL_isMinute 269 = .ok (.lload 13, 2) := by decide +kernel
theorem dL_isMinute_271 : decode cL_isMinute 271 = .ok (.l2i, 1) := by decide +kernel
theorem dL_isMinute_272 : decode cL_isMinute 272 = .ok (.istore 12, 2) := by decide +kernel
theorem dL_isMinute_274 : decode cL_isMinute 274 = .ok (.aload_n 0, 1) := by decide +kernel
theorem dL_isMinute_275 : decode cL_isMinute 275 = .ok (.iconst 3, 1) := by decide +kernel
theorem dL_isMinute_276 : decode cL_isMinute 276 = .ok (.invokevirtual 8, 3) := by decide +kernel
theorem dL_isMinute_279 : decode cL_isMinute 279 = .ok (.i2l, 1) := by decide +kernel
theorem dL_isMinute_280 : decode cL_isMinute 280 = .ok (.lload 4, 2) := by decide +kernel
theorem dL_isMinute_282 : decode cL_isMinute 282 = .ok (.ladd, 1) := by decide +kernel
theorem dL_isMinute_283 : decode cL_isMinute 283 = .ok (.lstore 15, 2) := by decide +kernel
theorem dL_isMinute_285 : decode cL_isMinute 285 = .ok (.lload 15, 2) := by decide +kernel
theorem dL_isMinute_287 : decode cL_isMinute 287 = .ok (.lload 15, 2) := by decide +kernel
theorem dL_isMinute_289 : decode cL_isMinute 289 = .ok (.aload_n 0, 1) := by decide +kernel
theorem dL_isMinute_290 : decode cL_isMinute 290 = .ok (.bipush 18, 2) := by decide +kernel
theorem dL_isMinute_292 : decode cL_isMinute 292 = .ok (.invokevirtual 8, 3) := by decide +kernel
theorem dL_isMinute_295 : decode cL_isMinute 295 = .ok (.i2l, 1) := by decide +kernel
theorem dL_isMinute_296 : decode cL_isMinute 296 = .ok (.lmul, 1) := by decide +kernel
theorem dL_isMinute_297 : decode cL_isMinute 297 = .ok (.ldc2_w 30, 3) := by decide +kernel
theorem dL_isMinute_300 : decode cL_isMinute 300 = .ok (.ldiv, 1) := by decide +kernel
theorem dL_isMinute_301 : decode cL_isMinute 301 = .ok (.lsub, 1) := by decide +kernel
theorem dL_isMinute_302 : decode cL_isMinute 302 = .ok (.lstore 15, 2) := by decide +kernel
theorem dL_isMinute_304 : decode cL_isMinute 304 = .ok (.lload 15, 2) := by decide +kernel
theorem dL_isMinute_306 : decode cL_isMinute 306 = .ok (.iload 8, 2) := by decide +kernel
theorem dL_isMinute_308 : decode cL_isMinute 308 = .ok (.iconst 1, 1) := by decide +kernel
theorem dL_isMinute_309 : decode cL_isMinute 309 = .ok (.if_icmp .ne 20, 3) := by decide +kernel
theorem dL_isMinute_312 : decode cL_isMinute 312 = .ok (.lload 15, 2) := by decide +kernel
theorem dL_isMinute_314 : decode cL_isMinute 314 = .ok (.aload_n 0, 1) := by decide +kernel
theorem dL_isMinute_315 : decode cL_isMinute 315 = .ok (.bipush 17, 2) := by decide +kernel
theorem dL_isMinute_317 : decode cL_isMinute 317 = .ok (.invokevirtual 8, 3) := by decide +kernel
theorem dL_isMinute_320 : decode cL_isMinute 320 = .ok (.i2l, 1) := by decide +kernel
theorem dL_isMinute_321 : decode cL_isMinute 321 = .ok (.lmul, 1) := by decide +kernel
theorem dL_isMinute_322 : decode cL_isMinute 322 = .ok (.ldc2_w 30, 3) := by decide +kernel
theorem dL_isMinute_325 : decode cL_isMinute 325 = .ok (.ldiv, 1) := by decide +kernel
theorem dL_isMinute_326 : decode cL_isMinute 326 = .ok (.goto 4, 3) := by decide +kernel
theorem dL_isMinute_329 : decode cL_isMinute 329 = .ok (.lconst 0, 1) := by decide +kernel
theorem dL_isMinute_330 : decode cL_isMinute 330 = .ok (.lsub, 1) := by decide +kernel
theorem dL_isMinute_331 : decode cL_isMinute 331 = .ok (.lstore 15, 2) := by decide +kernel
theorem dL_isMinute_333 : decode cL_isMinute 333 = .ok (.lload 15, 2) := by decide +kernel
theorem dL_isMinute_335 : decode cL_isMinute 335 = .ok (.iload 9, 2) := by decide +kernel
theorem dL_isMinute_337 : decode cL_isMinute 337 = .ok (.iconst 1, 1) := by decide +kernel
theorem dL_isMinute_338 : decode cL_isMinute 338 = .ok (.if_icmp .ne 20, 3) := by decide +kernel
theorem dL_isMinute_341 : decode cL_isMinute 341 = .ok (.lload 15, 2) := by decide +kernel
theorem dL_isMinute_343 : decode cL_isMinute 343 = .ok (.aload_n 0, 1) := by decide +kernel
theorem dL_isMinute_344 : decode cL_isMinute 344 = .ok (.bipush 19, 2) := by decide +kernel
theorem dL_isMinute_346 : decode cL_isMinute 346 = .ok (.invokevirtual 8, 3) := by decide +kernel
theorem dL_isMinute_349 : decode cL_isMinute 349 = .ok (.i2l, 1) := by decide +kernel
theorem dL_isMinute_350 : decode cL_isMinute 350 = .ok (.lmul, 1) := by decide +kernel
theorem dL_isMinute_351 : decode cL_isMinute 351 = .ok (.ldc2_w 30, 3) := by decide +kernel
theorem dL_isMinute_354 : decode cL_isMinute 354 = .ok (.ldiv, 1) := by decide +kernel
theorem dL_isMinute_355 : decode cL_isMinute 355 = .ok (.goto 4, 3) := by decide +kernel
theorem dL_isMinute_358 : decode cL_isMinute 358 = .ok (.lconst 0, 1) := by decide +kernel
theorem dL_isMinute_359 : decode cL_isMinute 359 = .ok (.lsub, 1) := by decide +kernel
theorem dL_isMinute_360 : decode cL_isMinute 360 = .ok (.lstore 15, 2) := by decide +kernel
theorem dL_isMinute_362 : decode cL_isMinute 362 = .ok (.lload 15, 2) := by decide +kernel
theorem dL_isMinute_364 : decode cL_isMinute 364 = .ok (.ldc2_w 32, 3) := by decide +kernel
theorem dL_isMinute_367 : decode cL_isMinute 367 = .ok (.aload_n 0, 1) := by decide +kernel
theorem dL_isMinute_368 : decode cL_isMinute 368 = .ok (.bipush 16, 2) := by decide +kernel
theorem dL_isMinute_370 : decode cL_isMinute 370 = .ok (.invokevirtual 8, 3) := by decide +kernel
theorem dL_isMinute_373 : decode cL_isMinute 373 = .ok (.i2l, 1) := by decide +kernel
theorem dL_isMinute_374 : decode cL_isMinute 374 = .ok (.lmul, 1) := by decide +kernel
theorem dL_isMinute_375 : decode cL_isMinute 375 = .ok (.ldiv, 1) := by decide +kernel
theorem dL_isMinute_376 : decode cL_isMinute 376 = .ok (.lstore 17, 2) := by decide +kernel
theorem dL_isMinute_378 : decode cL_isMinute 378 = .ok (.iload 8, 2) := by decide +kernel
theorem dL_isMinute_380 : decode cL_isMinute 380 = .ok (.istore 19, 2) := by decide +kernel
theorem dL_isMinute_382 : decode cL_isMinute 382 = .ok (.iload 11, 2) := by decide +kernel
theorem dL_isMinute_384 : decode cL_isMinute 384 = .ok (.istore 20, 2) := by decide +kernel
theorem dL_isMinute_386 : decode cL_isMinute 386 = .ok (.iload 10, 2) := by decide +kernel
theorem dL_isMinute_388 : decode cL_isMinute 388 = .ok (.ifCond .eq 39, 3) := by decide +kernel
theorem dL_isMinute_391 : decode cL_isMinute 391 = .ok (.iload 10, 2) := by decide +kernel
theorem dL_isMinute_393 : decode cL_isMinute 393 = .ok (.iconst 2, 1) := by decide +kernel
theorem dL_isMinute_394 : decode cL_isMinute 394 = .ok (.if_icmp .ne 7, 3) := by decide +kernel
theorem dL_isMinute_397 : decode cL_isMinute 397 = .ok (.iconst 1, 1) := by decide +kernel
theorem dL_isMinute_398 : decode cL_isMinute 398 = .ok (.goto 4, 3) := by decide +kernel
theorem dL_isMinute_401 : decode cL_isMinute 401 = .ok (.iconst 0, 1) := by decide +kernel
theorem dL_isMinute_402 : decode cL_isMinute 402 = .ok (.istore 19, 2) := by decide +kernel
theorem dL_isMinute_404 : decode cL_isMinute 404 = .ok (.iload 10, 2) := by decide +kernel
theorem dL_isMinute_406 : decode cL_isMinute 406 = .ok (.iconst 2, 1) := by decide +kernel
theorem dL_isMinute_407 : decode cL_isMinute 407 = .ok (.if_icmp .ne 14, 3) := by decide +kernel
theorem dL_isMinute_410 : decode cL_isMinute 410 = .ok (.iload 8, 2) := by decide +kernel
theorem dL_isMinute_412 : decode cL_isMinute 412 = .ok (.iconst 1, 1) := by decide +kernel
theorem dL_isMinute_413 : decode cL_isMinute 413 = .ok (.if_icmp .ne 8, 3) := by decide +kernel
theorem dL_isMinute_416 : decode cL_isMinute 416 = .ok (.iload 11, 2) := by decide +kernel
theorem dL_isMinute_418 : decode cL_isMinute 418 = .ok (.goto 4, 3) := by decide +kernel
theorem dL_isMinute_421 : decode cL_isMinute 421 = .ok (.iconst 0, 1) := by decide +kernel
theorem dL_isMinute_422 : decode cL_isMinute 422 = .ok (.istore 20, 2) := by decide +kernel
theorem dL_isMinute_424 : decode cL_isMinute 424 = .ok (.goto 85, 3) := by decide +kernel
theorem dL_isMinute_427 : decode cL_isMinute 427 = .ok (.iload 8, 2) := by decide +kernel
theorem dL_isMinute_429 : decode cL_isMinute 429 = .ok (.ifCond .ne 29, 3) := by decide +kernel
theorem dL_isMinute_432 : decode cL_isMinute 432 = .ok (.lload 17, 2) := by decide +kernel
theorem dL_isMinute_434 : decode cL_isMinute 434 = .ok (.aload_n 0, 1) := by decide +kernel
theorem dL_isMinute_435 : decode cL_isMinute 435 = .ok (.bipush 20, 2) := by decide +kernel
theorem dL_isMinute_437 : decode cL_isMinute 437 = .ok (.invokevirtual 8, 3) := by decide +kernel
theorem dL_isMinute_440 : decode cL_isMinute 440 = .ok (.i2l, 1) := by decide +kernel
theorem dL_isMinute_441 : decode cL_isMinute 441 = .ok (.lcmp, 1) := by decide +kernel
theorem dL_isMinute_442 : decode cL_isMinute 442 = .ok (.ifCond .lt 7, 3) := by decide +kernel
theorem dL_isMinute_445 : decode cL_isMinute 445 = .ok (.iconst 1, 1) := by decide +kernel
theorem dL_isMinute_446 : decode cL_isMinute 446 = .ok (.goto 4, 3) := by decide +kernel
theorem dL_isMinute_449 : decode cL_isMinute 449 = .ok (.iconst 0, 1) := by decide +kernel
theorem dL_isMinute_450 : decode cL_isMinute 450 = .ok (.istore 19, 2) := by decide +kernel
theorem dL_isMinute_452 : decode cL_isMinute 452 = .ok (.iconst 0, 1) := by decide +kernel
theorem dL_isMinute_453 : decode cL_isMinute 453 = .ok (.istore 20, 2) := by decide +kernel
theorem dL_isMinute_455 : decode cL_isMinute 455 = .ok (.goto 54, 3) := by decide +kernel
theorem dL_isMinute_458 : decode cL_isMinute 458 = .ok (.iload 11, 2) := by decide +kernel
theorem dL_isMinute_460 : decode cL_isMinute 460 = .ok (.iconst 1, 1) := by decide +kernel
theorem dL_isMinute_461 : decode cL_isMinute 461 = .ok (.iadd, 1) := by decide +kernel
theorem dL_isMinute_462 : decode cL_isMinute 462 = .ok (.istore 20, 2) := by decide +kernel
theorem dL_isMinute_464 : decode cL_isMinute 464 = .ok (.lload 17, 2) := by decide +kernel
theorem dL_isMinute_466 : decode cL_isMinute 466 = .ok (.aload_n 0, 1) := by decide +kernel
theorem dL_isMinute_467 : decode cL_isMinute 467 = .ok (.bipush 21, 2) := by decide +kernel
theorem dL_isMinute_469 : decode cL_isMinute 469 = .ok (.invokevirtual 8, 3) := by decide +kernel
theorem dL_isMinute_472 : decode cL_isMinute 472 = .ok (.i2l, 1) := by decide +kernel
theorem dL_isMinute_473 : decode cL_isMinute 473 = .ok (.lcmp, 1) := by decide +kernel
theorem dL_isMinute_474 : decode cL_isMinute 474 = .ok (.ifCond .gt 18, 3) := by decide +kernel
theorem dL_isMinute_477 : decode cL_isMinute 477 = .ok (.iload 20, 2) := by decide +kernel
theorem dL_isMinute_479 : decode cL_isMinute 479 = .ok (.aload_n 0, 1) := by decide +kernel
theorem dL_isMinute_480 : decode cL_isMinute 480 = .ok (.bipush 22, 2) := by decide +kernel
theorem dL_isMinute_482 : decode cL_isMinute 482 = .ok (.invokevirtual 8, 3) := by decide +kernel
theorem dL_isMinute_485 : decode cL_isMinute 485 = .ok (.if_icmp .lt 7, 3) := by decide +kernel
theorem dL_isMinute_488 : decode cL_isMinute 488 = .ok (.iconst 0, 1) := by decide +kernel
theorem dL_isMinute_489 : decode cL_isMinute 489 = .ok (.goto 4, 3) := by decide +kernel
theorem dL_isMinute_492 : decode cL_isMinute 492 = .ok (.iconst 1, 1) := by decide +kernel
theorem dL_isMinute_493 : decode cL_isMinute 493 = .ok (.istore 19, 2) := by decide +kernel
theorem dL_isMinute_495 : decode cL_isMinute 495 = .ok (.iload 19, 2) := by decide +kernel
theorem dL_isMinute_497 : decode cL_isMinute 497 = .ok (.iconst 1, 1) := by decide +kernel
theorem dL_isMinute_498 : decode cL_isMinute 498 = .ok (.if_icmp .ne 8, 3) := by decide +kernel
theorem dL_isMinute_501 : decode cL_isMinute 501 = .ok (.iload 20, 2) := by decide +kernel
theorem dL_isMinute_503 : decode cL_isMinute 503 = .ok (.goto 4, 3) := by decide +kernel
theorem dL_isMinute_506 : decode cL_isMinute 506 = .ok (.iconst 0, 1) := by decide +kernel
theorem dL_isMinute_507 : decode cL_isMinute 507 = .ok (.istore 20, 2) := by decide +kernel
theorem dL_isMinute_509 : decode cL_isMinute 509 = .ok (.aload_n 0, 1) := by decide +kernel
theorem dL_isMinute_510 : decode cL_isMinute 510 = .ok (.bipush 11, 2) := by decide +kernel
theorem dL_isMinute_512 : decode cL_isMinute 512 = .ok (.invokevirtual 8, 3) := by decide +kernel
theorem dL_isMinute_515 : decode cL_isMinute 515 = .ok (.iload 9, 2) := by decide +kernel
theorem dL_isMinute_517 : decode cL_isMinute 517 = .ok (.iconst 1, 1) := by decide +kernel
theorem dL_isMinute_518 : decode cL_isMinute 518 = .ok (.if_icmp .ne 20, 3) := by decide +kernel
theorem dL_isMinute_521 : decode cL_isMinute 521 = .ok (.lload 17, 2) := by decide +kernel
theorem dL_isMinute_523 : decode cL_isMinute 523 = .ok (.aload_n 0, 1) := by decide +kernel
theorem dL_isMinute_524 : decode cL_isMinute 524 = .ok (.bipush 23, 2) := by decide +kernel
theorem dL_isMinute_526 : decode cL_isMinute 526 = .ok (.invokevirtual 8, 3) := by decide +kernel
theorem dL_isMinute_529 : decode cL_isMinute 529 = .ok (.i2l, 1) := by decide +kernel
theorem dL_isMinute_530 : decode cL_isMinute 530 = .ok (.lcmp, 1) := by decide +kernel
theorem dL_isMinute_531 : decode cL_isMinute 531 = .ok (.ifCond .lt 7, 3) := by decide +kernel
theorem dL_isMinute_534 : decode cL_isMinute 534 = .ok (.iconst 1, 1) := by decide +kernel
theorem dL_isMinute_535 : decode cL_isMinute 535 = .ok (.goto 4, 3) := by decide +kernel
theorem dL_isMinute_538 : decode cL_isMinute 538 = .ok (.iconst 0, 1) := by decide +kernel
theorem dL_isMinute_539 : decode cL_isMinute 539 = .ok (.iadd, 1) := by decide +kernel
theorem dL_isMinute_540 : decode cL_isMinute 540 = .ok (.istore 21, 2) := by decide +kernel
theorem dL_isMinute_542 : decode cL_isMinute 542 = .ok (.aload_n 0, 1) := by decide +kernel
theorem dL_isMinute_543 : decode cL_isMinute 543 = .ok (.bipush 10, 2) := by decide +kernel
theorem dL_isMinute_545 : decode cL_isMinute 545 = .ok (.invokevirtual 8, 3) := by decide +kernel
theorem dL_isMinute_548 : decode cL_isMinute 548 = .ok (.istore 22, 2) := by decide +kernel
theorem dL_isMinute_550 : decode cL_isMinute 550 = .ok (.aload_n 0, 1) := by decide +kernel
theorem dL_isMinute_551 : decode cL_isMinute 551 = .ok (.iconst 0, 1) := by decide +kernel
theorem dL_isMinute_552 : decode cL_isMinute 552 = .ok (.invokevirtual 8, 3) := by decide +kernel
theorem dL_isMinute_555 : decode cL_isMinute 555 = .ok (.istore 23, 2) := by decide +kernel
theorem dL_isMinute_557 : decode cL_isMinute 557 = .ok (.aload_n 0, 1) := by decide +kernel
theorem dL_isMinute_558 : decode cL_isMinute 558 = .ok (.iconst 3, 1) := by decide +kernel
theorem dL_isMinute_559 : decode cL_isMinute 559 = .ok (.invokevirtual 34, 3) := by decide +kernel
theorem dL_isMinute_562 : decode cL_isMinute 562 = .ok (.lstore 24, 2) := by decide +kernel
theorem dL_isMinute_564 : decode cL_isMinute 564 = .ok (.aload_n 0, 1) := by decide +kernel
theorem dL_isMinute_565 : decode cL_isMinute 565 = .ok (.iconst 1, 1) := by decide +kernel
theorem dL_isMinute_566 : decode cL_isMinute 566 = .ok (.invokevirtual 38, 3) := by decide +kernel
theorem dL_isMinute_569 : decode cL_isMinute 569 = .ok (.iload 22, 2) := by decide +kernel
theorem dL_isMinute_571 : decode cL_isMinute 571 = .ok (.ifCond .le 7, 3) := by decide +kernel
theorem dL_isMinute_574 : decode cL_isMinute 574 = .ok (.iconst 1, 1) := by decide +kernel
theorem dL_isMinute_575 : decode cL_isMinute 575 = .ok (.goto 4, 3) := by decide +kernel
theorem dL_isMinute_578 : decode cL_isMinute 578 = .ok (.iconst 0, 1) := by decide +kernel
theorem dL_isMinute_579 : decode cL_isMinute 579 = .ok (.if_icmp .ne 139, 3) := by decide +kernel
theorem dL_isMinute_582 : decode cL_isMinute 582 = .ok (.aload_n 0, 1) := by decide +kernel
theorem dL_isMinute_583 : decode cL_isMinute 583 = .ok (.iconst 0, 1) := by decide +kernel
theorem dL_isMinute_584 : decode cL_isMinute 584 = .ok (.invokevirtual 8, 3) := by decide +kernel
theorem dL_isMinute_587 : decode cL_isMinute 587 = .ok (.iload 23, 2) := by decide +kernel
theorem dL_isMinute_589 : decode cL_isMinute 589 = .ok (.iconst 1, 1) := by decide +kernel
theorem dL_isMinute_590 : decode cL_isMinute 590 = .ok (.iadd, 1) := by decide +kernel
theorem dL_isMinute_591 : decode cL_isMinute 591 = .ok (.if_icmp .ne 127, 3) := by decide +kernel
theorem dL_isMinute_594 : decode cL_isMinute 594 = .ok (.aload_n 0, 1) := by decide +kernel
theorem dL_isMinute_595 : decode cL_isMinute 595 = .ok (.bipush 10, 2) := by decide +kernel
theorem dL_isMinute_597 : decode cL_isMinute 597 = .ok (.invokevirtual 8, 3) := by decide +kernel
theorem dL_isMinute_600 : decode cL_isMinute 600 = .ok (.iload 22, 2) := by decide +kernel
theorem dL_isMinute_602 : decode cL_isMinute 602 = .ok (.ifCond .le 10, 3) := by decide +kernel
theorem dL_isMinute_605 : decode cL_isMinute 605 = .ok (.iload 22, 2) := by decide +kernel
theorem dL_isMinute_607 : decode cL_isMinute 607 = .ok (.iconst 1, 1) := by decide +kernel
theorem dL_isMinute_608 : decode cL_isMinute 608 = .ok (.isub, 1) := by decide +kernel
theorem dL_isMinute_609 : decode cL_isMinute 609 = .ok (.goto 4, 3) := by decide +kernel
theorem dL_isMinute_612 : decode cL_isMinute 612 = .ok (.iconst 0, 1) := by decide +kernel
theorem dL_isMinute_613 : decode cL_isMinute 613 = .ok (.if_icmp .ne 105, 3) := by decide +kernel
theorem dL_isMinute_616 : decode cL_isMinute 616 = .ok (.aload_n 0, 1) := by decide +kernel
theorem dL_isMinute_617 : decode cL_isMinute 617 = .ok (.iconst 1, 1) := by decide +kernel
theorem dL_isMinute_618 : decode cL_isMinute 618 = .ok (.invokevirtual 8, 3) := by decide +kernel
theorem dL_isMinute_621 : decode cL_isMinute 621 = .ok (.iload 12, 2) := by decide +kernel
theorem dL_isMinute_623 : decode cL_isMinute 623 = .ok (.if_icmp .ne 95, 3) := by decide +kernel
theorem dL_isMinute_626 : decode cL_isMinute 626 = .ok (.aload_n 0, 1) := by decide +kernel
theorem dL_isMinute_627 : decode cL_isMinute 627 = .ok (.iconst 2, 1) := by decide +kernel
theorem dL_isMinute_628 : decode cL_isMinute 628 = .ok (.invokevirtual 8, 3) := by decide +kernel
theorem dL_isMinute_631 : decode cL_isMinute 631 = .ok (.iload 6, 2) := by decide +kernel
theorem dL_isMinute_633 : decode cL_isMinute 633 = .ok (.if_icmp .ne 85, 3) := by decide +kernel
theorem dL_isMinute_636 : decode cL_isMinute 636 = .ok (.aload_n 0, 1) := by decide +kernel
theorem dL_isMinute_637 : decode cL_isMinute 637 = .ok (.iconst 3, 1) := by decide +kernel
theorem dL_isMinute_638 : decode cL_isMinute 638 = .ok (.invokevirtual 8, 3) := by decide +kernel
theorem dL_isMinute_641 : decode cL_isMinute 641 = .ok (.i2l, 1) := by decide +kernel
theorem dL_isMinute_642 : decode cL_isMinute 642 = .ok (.lload 15, 2) := by decide +kernel
theorem dL_isMinute_644 : decode cL_isMinute 644 = .ok (.lcmp, 1) := by decide +kernel
theorem dL_isMinute_645 : decode cL_isMinute 645 = .ok (.ifCond .ne 73, 3) := by decide +kernel
theorem dL_isMinute_648 : decode cL_isMinute 648 = .ok (.aload_n 0, 1) := by decide +kernel
theorem dL_isMinute_649 : decode cL_isMinute 649 = .ok (.iconst 4, 1) := by decide +kernel
theorem dL_isMinute_650 : decode cL_isMinute 650 = .ok (.invokevirtual 8, 3) := by decide +kernel
theorem dL_isMinute_653 : decode cL_isMinute 653 = .ok (.i2l, 1) := by decide +kernel
theorem dL_isMinute_654 : decode cL_isMinute 654 = .ok (.lload 17, 2) := by decide +kernel
theorem dL_isMinute_656 : decode cL_isMinute 656 = .ok (.lcmp, 1) := by decide +kernel
theorem dL_isMinute_657 : decode cL_isMinute 657 = .ok (.ifCond .ne 61, 3) := by decide +kernel
theorem dL_isMinute_660 : decode cL_isMinute 660 = .ok (.aload_n 0, 1) := by decide +kernel
theorem dL_isMinute_661 : decode cL_isMinute 661 = .ok (.bipush 6, 2) := by decide +kernel
theorem dL_isMinute_663 : decode cL_isMinute 663 = .ok (.invokevirtual 8, 3) := by decide +kernel
theorem dL_isMinute_666 : decode cL_isMinute 666 = .ok (.iload 19, 2) := by decide +kernel
theorem dL_isMinute_668 : decode cL_isMinute 668 = .ok (.if_icmp .ne 50, 3) := by decide +kernel
theorem dL_isMinute_671 : decode cL_isMinute 671 = .ok (.aload_n 0, 1) := by decide +kernel
theorem dL_isMinute_672 : decode cL_isMinute 672 = .ok (.bipush 7, 2) := by decide +kernel
theorem dL_isMinute_674 : decode cL_isMinute 674 = .ok (.invokevirtual 8, 3) := by decide +kernel
theorem dL_isMinute_677 : decode cL_isMinute 677 = .ok (.iload 20, 2) := by decide +kernel
theorem dL_isMinute_679 : decode cL_isMinute 679 = .ok (.if_icmp .ne 39, 3) := by decide +kernel
theorem dL_isMinute_682 : decode cL_isMinute 682 = .ok (.aload_n 0, 1) := by decide +kernel
theorem dL_isMinute_683 : decode cL_isMinute 683 = .ok (.bipush 8, 2) := by decide +kernel
theorem dL_isMinute_685 : decode cL_isMinute 685 = .ok (.invokevirtual 8, 3) := by decide +kernel
theorem dL_isMinute_688 : decode cL_isMinute 688 = .ok (.iload 9, 2) := by decide +kernel
theorem dL_isMinute_690 : decode cL_isMinute 690 = .ok (.if_icmp .ne 28, 3) := by decide +kernel
theorem dL_isMinute_693 : decode cL_isMinute 693 = .ok (.aload_n 0, 1) := by decide +kernel
theorem dL_isMinute_694 : decode cL_isMinute 694 = .ok (.bipush 11, 2) := by decide +kernel
theorem dL_isMinute_696 : decode cL_isMinute 696 = .ok (.invokevirtual 8, 3) := by decide +kernel
theorem dL_isMinute_699 : decode cL_isMinute 699 = .ok (.iload 21, 2) := by decide +kernel
theorem dL_isMinute_701 : decode cL_isMinute 701 = .ok (.if_icmp .ne 17, 3) := by decide +kernel
theorem dL_isMinute_704 : decode cL_isMinute 704 = .ok (.aload_n 0, 1) := by decide +kernel
theorem dL_isMinute_705 : decode cL_isMinute 705 = .ok (.iconst 3, 1) := by decide +kernel
theorem dL_isMinute_706 : decode cL_isMinute 706 = .ok (.invokevirtual 34, 3) := by decide +kernel
theorem dL_isMinute_709 : decode cL_isMinute 709 = .ok (.lload 24, 2) := by decide +kernel
theorem dL_isMinute_711 : decode cL_isMinute 711 = .ok (.lload 4, 2) := by decide +kernel
theorem dL_isMinute_713 : decode cL_isMinute 713 = .ok (.ladd, 1) := by decide +kernel
theorem dL_isMinute_714 : decode cL_isMinute 714 = .ok (.lcmp, 1) := by decide +kernel
theorem dL_isMinute_715 : decode cL_isMinute 715 = .ok (.ifCond .eq 5, 3) := by decide +kernel
theorem dL_isMinute_718 : decode cL_isMinute 718 = .ok (.iconst 0, 1) := by decide +kernel
theorem dL_isMinute_719 : decode cL_isMinute 719 = .ok (.ireturn, 1) := by decide +kernel
theorem dL_isMinute_720 : decode cL_isMinute 720 = .ok (.iconst 0, 1) := by decide +kernel
theorem dL_isMinute_721 : decode cL_isMinute 721 = .ok (.istore 26, 2) := by decide +kernel
theorem dL_isMinute_723 : decode cL_isMinute 723 = .ok (.iload 26, 2) := by decide +kernel
theorem dL_isMinute_725 : decode cL_isMinute 725 = .ok (.iload_n 1, 1) := by decide +kernel
theorem dL_isMinute_726 : decode cL_isMinute 726 = .ok (.if_icmp .ge 39, 3) := by decide +kernel
theorem dL_isMinute_729 : decode cL_isMinute 729 = .ok (.aload_n 0, 1) := by decide +kernel
theorem dL_isMinute_730 : decode cL_isMinute 730 = .ok (.iload 26, 2) := by decide +kernel
theorem dL_isMinute_732 : decode cL_isMinute 732 = .ok (.iconst 2, 1) := by decide +kernel
theorem dL_isMinute_733 : decode cL_isMinute 733 = .ok (.invokevirtual 18, 3) := by decide +kernel
theorem dL_isMinute_736 : decode cL_isMinute 736 = .ok (.aload_n 2, 1) := by decide +kernel
theorem dL_isMinute_737 : decode cL_isMinute 737 = .ok (.iload 26, 2) := by decide +kernel
theorem dL_isMinute_739 : decode cL_isMinute 739 = .ok (.iaload, 1) := by decide +kernel
theorem dL_isMinute_740 : decode cL_isMinute 740 = .ok (.if_icmp .ne 17, 3) := by decide +kernel
theorem dL_isMinute_743 : decode cL_isMinute 743 = .ok (.aload_n 0, 1) := by decide +kernel
theorem dL_isMinute_744 : decode cL_isMinute 744 = .ok (.iload 26, 2) := by decide +kernel
theorem dL_isMinute_746 : decode cL_isMinute 746 = .ok (.iconst 3, 1) := by decide +kernel
theorem dL_isMinute_747 : decode cL_isMinute 747 = .ok (.invokevirtual 18, 3) := by decide +kernel
theorem dL_isMinute_750 : decode cL_isMinute 750 = .ok (.aload_n 3, 1) := by decide +kernel
theorem dL_isMinute_751 : decode cL_isMinute 751 = .ok (.iload 26, 2) := by decide +kernel
theorem dL_isMinute_753 : decode cL_isMinute 753 = .ok (.iaload, 1) := by decide +kernel
theorem dL_isMinute_754 : decode cL_isMinute 754 = .ok (.if_icmp .eq 5, 3) := by decide +kernel
theorem dL_isMinute_757 : decode cL_isMinute 757 = .ok (.iconst 0, 1) := by decide +kernel
theorem dL_isMinute_758 : decode cL_isMinute 758 = .ok (.ireturn, 1) := by decide +kernel
theorem dL_isMinute_759 : decode cL_isMinute 759 = .ok (.iinc 26 1, 3) := by decide +kernel
theorem dL_isMinute_762 : decode cL_isMinute 762 = .ok (.goto (-39), 3) := by decide +kernel
theorem dL_isMinute_765 : decode cL_isMinute 765 = .ok (.iconst 1, 1) := by decide +kernel
theorem dL_isMinute_766 : decode cL_isMinute 766 = .ok (.ireturn, 1) := by decide +kernel
set_option maxRecDepth 20000 in
theorem ggL_addsUp_X9_van : GoodIn wsL_addsUp wsX9_van := goodIn_r _ [5, 6, 7, 8, 9, 10, 11, 12, 13, 14, 15, 16, 17, 18, 19, 20, 21, 22, 23, 24, 25, 26, 27, 28, 4, 29, 30, 31, 32, 33, 34, 35, 36, 37, 38, 39, 40, 41, 42, 43, 44, 45, 46, 47, 48, 49, 50, 51, 52, 53, 54, 55, 56, 57, 58, 59, 60, 61, 62, 63, 64, 110, 111, 112, 113, 114, 115, 116, 117, 118, 119, 120, 121, 122, 123, 124, 125, 126, 127, 128, 129, 130, 131, 132, 133, 134, 135, 136, 137, 138, 139, 140, 141, 142] (by decide +kernel) (by decide +kernel)
set_option maxRecDepth 20000 in
theorem gL_addsUp_X9_van : GoodIn wsL_addsUp (wsV RL 8 RX9 yX9_van wsX9_van) := goodIn_app (goodIn_of _ (by decide +kernel)) ggL_addsUp_X9_van
set_option maxRecDepth 20000 in
theorem ggL_addsUp_X9_box : GoodIn wsL_addsUp wsX9_box := goodIn_r _ [68, 7, 22, 69, 70, 71, 72, 10, 11, 8, 73, 74, 75, 76, 77, 78, 79, 28, 4, 29, 30, 31, 32, 33, 34, 35, 80, 81, 82, 83, 84, 85, 86, 87, 88, 89, 90, 91, 92, 93, 94, 63, 64, 110, 111, 112, 113, 114, 115, 116, 117, 118, 119, 120, 121, 122, 123, 124, 125, 143, 144, 145, 146, 126, 127, 128, 129, 130, 131, 132, 138, 139, 142] (by decide +kernel) (by decide +kernel)
set_option maxRecDepth 20000 in
theorem gL_addsUp_X9_box : GoodIn wsL_addsUp (wsV RL 18 RX9 yX9_box wsX9_box) := goodIn_app (goodIn_of _ (by decide +kernel)) ggL_addsUp_X9_box
set_option maxRecDepth 20000 in
theorem ggL_addsUp_X9_account : GoodIn wsL_addsUp wsX9_account := goodIn_r _ [98, 7, 22, 99, 100, 101, 102, 103, 104, 105, 106, 107, 76, 108, 78, 79, 109, 110, 111, 112, 113, 114, 115, 116, 117, 118, 119, 120, 121, 122, 123, 124, 125, 138, 139, 143, 144, 145, 146] (by decide +kernel) (by decide +kernel)
set_option maxRecDepth 20000 in
theorem gL_addsUp_X9_account : GoodIn wsL_addsUp (wsV RL 34 RX9 yX9_account wsX9_account) := goodIn_app (goodIn_of _ (by decide +kernel)) ggL_addsUp_X9_account
theorem dL_addsUp_0 : decode cL_addsUp 0 = .ok (.lconst 0, 1) := by decide +kernel
theorem dL_addsUp_1 : decode cL_addsUp 1 = .ok (.lstore_n 1, 1) := by decide +kernel
theorem dL_addsUp_2 : decode cL_addsUp 2 = .ok (.iconst 0, 1) := by decide +kernel
theorem dL_addsUp_3 : decode cL_addsUp 3 = .ok (.istore_n 3, 1) := by decide +kernel
theorem dL_addsUp_4 : decode cL_addsUp 4 = .ok (.iload_n 3, 1) := by decide +kernel
theorem dL_addsUp_5 : decode cL_addsUp 5 = .ok (.aload_n 0, 1) := by decide +kernel
theorem dL_addsUp_6 : decode cL_addsUp 6 = .ok (.bipush 12, 2) := by decide +kernel
theorem dL_addsUp_8 : decode cL_addsUp 8 = .ok (.invokevirtual 8, 3) := by decide +kernel
theorem dL_addsUp_11 : decode cL_addsUp 11 = .ok (.if_icmp .ge 19, 3) := by decide +kernel
theorem dL_addsUp_14 : decode cL_addsUp 14 = .ok (.lload_n 1, 1) := by decide +kernel
theorem dL_addsUp_15 : decode cL_addsUp 15 = .ok (.aload_n 0, 1) := by decide +kernel
theorem dL_addsUp_16 : decode cL_addsUp 16 = .ok (.iload_n 3, 1) := by decide +kernel
theorem dL_addsUp_17 : decode cL_addsUp 17 = .ok (.iconst 2, 1) := by decide +kernel
theorem dL_addsUp_18 : decode cL_addsUp 18 = .ok (.invokevirtual 18, 3) := by decide +kernel
theorem dL_addsUp_21 : decode cL_addsUp 21 = .ok (.i2l, 1) := by decide +kernel
theorem dL_addsUp_22 : decode cL_addsUp 22 = .ok (.ladd, 1) := by decide +kernel
theorem dL_addsUp_23 : decode cL_addsUp 23 = .ok (.lstore_n 1, 1) := by decide +kernel
theorem dL_addsUp_24 : decode cL_addsUp 24 = .ok (.iinc 3 1, 3) := by decide +kernel
theorem dL_addsUp_27 : decode cL_addsUp 27 = .ok (.goto (-23), 3) := by decide +kernel
theorem dL_addsUp_30 : decode cL_addsUp 30 = .ok (.aload_n 0, 1) := by decide +kernel
theorem dL_addsUp_31 : decode cL_addsUp 31 = .ok (.iconst 0, 1) := by decide +kernel
theorem dL_addsUp_32 : decode cL_addsUp 32 = .ok (.invokevirtual 34, 3) := by decide +kernel
theorem dL_addsUp_35 : decode cL_addsUp 35 = .ok (.lload_n 1, 1) := by decide +kernel
theorem dL_addsUp_36 : decode cL_addsUp 36 = .ok (.lcmp, 1) := by decide +kernel
theorem dL_addsUp_37 : decode cL_addsUp 37 = .ok (.ifCond .ne 41, 3) := by decide +kernel
theorem dL_addsUp_40 : decode cL_addsUp 40 = .ok (.aload_n 0, 1) := by decide +kernel
theorem dL_addsUp_41 : decode cL_addsUp 41 = .ok (.iconst 1, 1) := by decide +kernel
theorem dL_addsUp_42 : decode cL_addsUp 42 = .ok (.invokevirtual 34, 3) := by decide +kernel
theorem dL_addsUp_45 : decode cL_addsUp 45 = .ok (.lload_n 1, 1) := by decide +kernel
theorem dL_addsUp_46 : decode cL_addsUp 46 = .ok (.aload_n 0, 1) := by decide +kernel
theorem dL_addsUp_47 : decode cL_addsUp 47 = .ok (.iconst 2, 1) := by decide +kernel
theorem dL_addsUp_48 : decode cL_addsUp 48 = .ok (.invokevirtual 34, 3) := by decide +kernel
theorem dL_addsUp_51 : decode cL_addsUp 51 = .ok (.ladd, 1) := by decide +kernel
theorem dL_addsUp_52 : decode cL_addsUp 52 = .ok (.aload_n 0, 1) := by decide +kernel
theorem dL_addsUp_53 : decode cL_addsUp 53 = .ok (.iconst 3, 1) := by decide +kernel
theorem dL_addsUp_54 : decode cL_addsUp 54 = .ok (.invokevirtual 34, 3) := by decide +kernel
theorem dL_addsUp_57 : decode cL_addsUp 57 = .ok (.ladd, 1) := by decide +kernel
theorem dL_addsUp_58 : decode cL_addsUp 58 = .ok (.aload_n 0, 1) := by decide +kernel
theorem dL_addsUp_59 : decode cL_addsUp 59 = .ok (.iconst 4, 1) := by decide +kernel
theorem dL_addsUp_60 : decode cL_addsUp 60 = .ok (.invokevirtual 34, 3) := by decide +kernel
theorem dL_addsUp_63 : decode cL_addsUp 63 = .ok (.ladd, 1) := by decide +kernel
theorem dL_addsUp_64 : decode cL_addsUp 64 = .ok (.aload_n 0, 1) := by decide +kernel
theorem dL_addsUp_65 : decode cL_addsUp 65 = .ok (.iconst 5, 1) := by decide +kernel
theorem dL_addsUp_66 : decode cL_addsUp 66 = .ok (.invokevirtual 34, 3) := by decide +kernel
theorem dL_addsUp_69 : decode cL_addsUp 69 = .ok (.ladd, 1) := by decide +kernel
theorem dL_addsUp_70 : decode cL_addsUp 70 = .ok (.lcmp, 1) := by decide +kernel
theorem dL_addsUp_71 : decode cL_addsUp 71 = .ok (.ifCond .ne 7, 3) := by decide +kernel
theorem dL_addsUp_74 : decode cL_addsUp 74 = .ok (.iconst 1, 1) := by decide +kernel
theorem dL_addsUp_75 : decode cL_addsUp 75 = .ok (.goto 4, 3) := by decide +kernel
theorem dL_addsUp_78 : decode cL_addsUp 78 = .ok (.iconst 0, 1) := by decide +kernel
theorem dL_addsUp_79 : decode cL_addsUp 79 = .ok (.ireturn, 1) := by decide +kernel
set_option maxRecDepth 20000 in
theorem ggL_isSold_X9_van : GoodIn wsL_isSold wsX9_van := goodIn_r _ [6, 7, 8, 9, 10, 11, 12, 13, 14, 15, 16, 17, 18, 19, 20, 21, 22, 23, 24, 25, 26, 27, 28, 29, 5, 30, 31, 32, 33, 34, 35, 36, 37, 38, 39, 40, 41, 42, 43, 44, 45, 46, 47, 48, 49, 50, 51, 52, 53, 54, 55, 56, 57, 58, 59, 60, 61, 62, 63, 64, 65, 131, 132, 133, 134, 135, 136, 137, 138, 139, 140, 141, 142, 143, 144, 145, 146, 147, 148, 149, 150, 151, 152, 153, 154, 155, 156, 157, 158, 159, 160, 161, 162, 163] (by decide +kernel) (by decide +kernel)
set_option maxRecDepth 20000 in
theorem gL_isSold_X9_van : GoodIn wsL_isSold (wsV RL 8 RX9 yX9_van wsX9_van) := goodIn_app (goodIn_of _ (by decide +kernel)) ggL_isSold_X9_van
set_option maxRecDepth 20000 in
theorem ggL_isSold_X9_account : GoodIn wsL_isSold wsX9_account := goodIn_r _ [69, 8, 23, 70, 71, 72, 73, 74, 75, 76, 77, 78, 79, 80, 81, 82, 83, 131, 132, 133, 134, 135, 136, 137, 138, 139, 140, 141, 142, 143, 144, 145, 146, 159, 160, 164, 165, 166, 167] (by decide +kernel) (by decide +kernel)
set_option maxRecDepth 20000 in
theorem gL_isSold_X9_account : GoodIn wsL_isSold (wsV RL 34 RX9 yX9_account wsX9_account) := goodIn_app (goodIn_of _ (by decide +kernel)) ggL_isSold_X9_account
set_option maxRecDepth 20000 in
theorem ggL_isSold_X9_box : GoodIn wsL_isSold wsX9_box := goodIn_r _ [87, 8, 23, 88, 89, 90, 91, 11, 12, 9, 92, 93, 94, 79, 95, 81, 82, 29, 5, 30, 31, 32, 33, 34, 35, 36, 96, 97, 98, 99, 100, 101, 102, 103, 104, 105, 106, 107, 108, 109, 110, 64, 65, 131, 132, 133, 134, 135, 136, 137, 138, 139, 140, 141, 142, 143, 144, 145, 146, 164, 165, 166, 167, 147, 148, 149, 150, 151, 152, 153, 159, 160, 163] (by decide +kernel) (by decide +kernel)
set_option maxRecDepth 20000 in
theorem gL_isSold_X9_box : GoodIn wsL_isSold (wsV RL 18 RX9 yX9_box wsX9_box) := goodIn_app (goodIn_of _ (by decide +kernel)) ggL_isSold_X9_box
set_option maxRecDepth 20000 in
theorem ggL_isSold_X9_sell : GoodIn wsL_isSold wsX9_sell := goodIn_r _ [114, 115, 8, 11, 18, 23, 73, 28, 29, 5, 30, 76, 77, 78, 79, 80, 81, 82, 83, 116, 117, 118, 119, 120, 121, 105, 122, 123, 124, 125, 99, 126, 107, 127, 128, 129, 130, 131, 132, 133, 134, 135, 136, 137, 138, 139, 140, 141, 142, 143, 144, 145, 146, 147, 148, 149, 150, 151, 152, 153, 159, 160, 164, 165, 166, 167] (by decide +kernel) (by decide +kernel)
set_option maxRecDepth 20000 in
theorem gL_isSold_X9_sell : GoodIn wsL_isSold (wsV RL 41 RX9 yX9_sell wsX9_sell) := goodIn_app (goodIn_of _ (by decide +kernel)) ggL_isSold_X9_sell
theorem dL_isSold_0 : decode cL_isSold 0 = .ok (.aload_n 0, 1) := by decide +kernel
theorem dL_isSold_1 : decode cL_isSold 1 = .ok (.bipush 12, 2) := by decide +kernel
theorem dL_isSold_3 : decode cL_isSold 3 = .ok (.invokevirtual 8, 3) := by decide +kernel
theorem dL_isSold_6 : decode cL_isSold 6 = .ok (.istore_n 2, 1) := by decide +kernel
theorem dL_isSold_7 : decode cL_isSold 7 = .ok (.bipush 10, 2) := by decide +kernel
theorem dL_isSold_9 : decode cL_isSold 9 = .ok (.newarray .int, 2) := by decide +kernel
theorem dL_isSold_11 : decode cL_isSold 11 = .ok (.astore_n 3, 1) := by decide +kernel
theorem dL_isSold_12 : decode cL_isSold 12 = .ok (.bipush 10, 2) := by decide +kernel
theorem dL_isSold_14 : decode cL_isSold 14 = .ok (.newarray .int, 2) := by decide +kernel
theorem dL_isSold_16 : decode cL_isSold 16 = .ok (.astore 4, 2) := by decide +kernel
theorem dL_isSold_18 : decode cL_isSold 18 = .ok (.aload_n 0, 1) := by decide +kernel
theorem dL_isSold_19 : decode cL_isSold 19 = .ok (.iconst 0, 1) := by decide +kernel
theorem dL_isSold_20 : decode cL_isSold 20 = .ok (.invokevirtual 34, 3) := by decide +kernel
theorem dL_isSold_23 : decode cL_isSold 23 = .ok (.lstore 5, 2) := by decide +kernel
theorem dL_isSold_25 : decode cL_isSold 25 = .ok (.iload_n 1, 1) := by decide +kernel
theorem dL_isSold_26 : decode cL_isSold 26 = .ok (.istore 7, 2) := by decide +kernel
theorem dL_isSold_28 : decode cL_isSold 28 = .ok (.iconst 0, 1) := by decide +kernel
theorem dL_isSold_29 : decode cL_isSold 29 = .ok (.istore 8, 2) := by decide +kernel
theorem dL_isSold_31 : decode cL_isSold 31 = .ok (.iconst 0, 1) := by decide +kernel
theorem dL_isSold_32 : decode cL_isSold 32 = .ok (.istore 9, 2) := by decide +kernel
theorem dL_isSold_34 : decode cL_isSold 34 = .ok (.iload 9, 2) := by decide +kernel
theorem dL_isSold_36 : decode cL_isSold 36 = .ok (.iload_n 2, 1) := by decide +kernel
theorem dL_isSold_37 : decode cL_isSold 37 = .ok (.if_icmp .ge 103, 3) := by decide +kernel
theorem dL_isSold_40 : decode cL_isSold 40 = .ok (.iload 7, 2) := by decide +kernel
theorem dL_isSold_42 : decode cL_isSold 42 = .ok (.aload_n 0, 1) := by decide +kernel
theorem dL_isSold_43 : decode cL_isSold 43 = .ok (.iload 9, 2) := by decide +kernel
theorem dL_isSold_45 : decode cL_isSold 45 = .ok (.iconst 2, 1) := by decide +kernel
theorem dL_isSold_46 : decode cL_isSold 46 = .ok (.invokevirtual 18, 3) := by decide +kernel
theorem dL_isSold_49 : decode cL_isSold 49 = .ok (.if_icmp .ge 8, 3) := by decide +kernel
theorem dL_isSold_52 : decode cL_isSold 52 = .ok (.iload 7, 2) := by decide +kernel
theorem dL_isSold_54 : decode cL_isSold 54 = .ok (.goto 10, 3) := by decide +kernel
theorem dL_isSold_57 : decode cL_isSold 57 = .ok (.aload_n 0, 1) := by decide +kernel
theorem dL_isSold_58 : decode cL_isSold 58 = .ok (.iload 9, 2) := by decide +kernel
theorem dL_isSold_60 : decode cL_isSold 60 = .ok (.iconst 2, 1) := by decide +kernel
theorem dL_isSold_61 : decode cL_isSold 61 = .ok (.invokevirtual 18, 3) := by decide +kernel
theorem dL_isSold_64 : decode cL_isSold 64 = .ok (.istore 10, 2) := by decide +kernel
theorem dL_isSold_66 : decode cL_isSold 66 = .ok (.aload_n 3, 1) := by decide +kernel
theorem dL_isSold_67 : decode cL_isSold 67 = .ok (.iload 9, 2) := by decide +kernel
theorem dL_isSold_69 : decode cL_isSold 69 = .ok (.aload_n 0, 1) := by decide +kernel
theorem dL_isSold_70 : decode cL_isSold 70 = .ok (.iload 9, 2) := by decide +kernel
theorem dL_isSold_72 : decode cL_isSold 72 = .ok (.iconst 2, 1) := by decide +kernel
theorem dL_isSold_73 : decode cL_isSold 73 = .ok (.invokevirtual 18, 3) := by decide +kernel
theorem dL_isSold_76 : decode cL_isSold 76 = .ok (.iload 10, 2) := by decide +kernel
theorem dL_isSold_78 : decode cL_isSold 78 = .ok (.isub, 1) := by decide +kernel
theorem dL_isSold_79 : decode cL_isSold 79 = .ok (.iastore, 1) := by decide +kernel
theorem dL_isSold_80 : decode cL_isSold 80 = .ok (.aload 4, 2) := by decide +kernel
theorem dL_isSold_82 : decode cL_isSold 82 = .ok (.iload 9, 2) := by decide +kernel
theorem dL_isSold_84 : decode cL_isSold 84 = .ok (.aload_n 0, 1) := by decide +kernel
theorem dL_isSold_85 : decode cL_isSold 85 = .ok (.iload 9, 2) := by decide +kernel
theorem dL_isSold_87 : decode cL_isSold 87 = .ok (.iconst 3, 1) := by decide +kernel
theorem dL_isSold_88 : decode cL_isSold 88 = .ok (.invokevirtual 18, 3) := by decide +kernel
theorem dL_isSold_91 : decode cL_isSold 91 = .ok (.iload 10, 2) := by decide +kernel
theorem dL_isSold_93 : decode cL_isSold 93 = .ok (.isub, 1) := by decide +kernel
theorem dL_isSold_94 : decode cL_isSold 94 = .ok (.ifCond .ge 7, 3) := by decide +kernel
theorem dL_isSold_97 : decode cL_isSold 97 = .ok (.iconst 0, 1) := by decide +kernel
theorem dL_isSold_98 : decode cL_isSold 98 = .ok (.goto 13, 3) := by decide +kernel
theorem dL_isSold_101 : decode cL_isSold 101 = .ok (.aload_n 0, 1) := by decide +kernel
theorem dL_isSold_102 : decode cL_isSold 102 = .ok (.iload 9, 2) := by decide +kernel
theorem dL_isSold_104 : decode cL_isSold 104 = .ok (.iconst 3, 1) := by decide +kernel
theorem dL_isSold_105 : decode cL_isSold 105 = .ok (.invokevirtual 18, 3) := by decide +kernel
theorem dL_isSold_108 : decode cL_isSold 108 = .ok (.iload 10, 2) := by decide +kernel
theorem dL_isSold_110 : decode cL_isSold 110 = .ok (.isub, 1) := by decide +kernel
theorem dL_isSold_111 : decode cL_isSold 111 = .ok (.iastore, 1) := by decide +kernel
theorem dL_isSold_112 : decode cL_isSold 112 = .ok (.iload 8, 2) := by decide +kernel
theorem dL_isSold_114 : decode cL_isSold 114 = .ok (.iload 10, 2) := by decide +kernel
theorem dL_isSold_116 : decode cL_isSold 116 = .ok (.ifCond .le 7, 3) := by decide +kernel
theorem dL_isSold_119 : decode cL_isSold 119 = .ok (.iconst 1, 1) := by decide +kernel
theorem dL_isSold_120 : decode cL_isSold 120 = .ok (.goto 4, 3) := by decide +kernel
theorem dL_isSold_123 : decode cL_isSold 123 = .ok (.iconst 0, 1) := by decide +kernel
theorem dL_isSold_124 : decode cL_isSold 124 = .ok (.iadd, 1) := by decide +kernel
theorem dL_isSold_125 : decode cL_isSold 125 = .ok (.istore 8, 2) := by decide +kernel
theorem dL_isSold_127 : decode cL_isSold 127 = .ok (.iload 7, 2) := by decide +kernel
theorem dL_isSold_129 : decode cL_isSold 129 = .ok (.iload 10, 2) := by decide +kernel
theorem dL_isSold_131 : decode cL_isSold 131 = .ok (.isub, 1) := by decide +kernel
theorem dL_isSold_132 : decode cL_isSold 132 = .ok (.istore 7, 2) := by decide +kernel
theorem dL_isSold_134 : decode cL_isSold 134 = .ok (.iinc 9 1, 3) := by decide +kernel
theorem dL_isSold_137 : decode cL_isSold 137 = .ok (.goto (-103), 3) := by decide +kernel
theorem dL_isSold_140 : decode cL_isSold 140 = .ok (.aload_n 0, 1) := by decide +kernel
theorem dL_isSold_141 : decode cL_isSold 141 = .ok (.iconst 4, 1) := by decide +kernel
theorem dL_isSold_142 : decode cL_isSold 142 = .ok (.invokevirtual 34, 3) := by decide +kernel
theorem dL_isSold_145 : decode cL_isSold 145 = .ok (.lstore 9, 2) := by decide +kernel
theorem dL_isSold_147 : decode cL_isSold 147 = .ok (.aload_n 0, 1) := by decide +kernel
theorem dL_isSold_148 : decode cL_isSold 148 = .ok (.bipush 8, 2) := by decide +kernel
theorem dL_isSold_150 : decode cL_isSold 150 = .ok (.invokevirtual 8, 3) := by decide +kernel
theorem dL_isSold_153 : decode cL_isSold 153 = .ok (.iconst 1, 1) := by decide +kernel
theorem dL_isSold_154 : decode cL_isSold 154 = .ok (.if_icmp .ne 15, 3) := by decide +kernel
theorem dL_isSold_157 : decode cL_isSold 157 = .ok (.lload 5, 2) := by decide +kernel
theorem dL_isSold_159 : decode cL_isSold 159 = .ok (.iload_n 1, 1) := by decide +kernel
theorem dL_isSold_160 : decode cL_isSold 160 = .ok (.i2l, 1) := by decide +kernel
theorem dL_isSold_161 : decode cL_isSold 161 = .ok (.lcmp, 1) := by decide +kernel
theorem dL_isSold_162 : decode cL_isSold 162 = .ok (.ifCond .lt 7, 3) := by decide +kernel
theorem dL_isSold_165 : decode cL_isSold 165 = .ok (.iconst 1, 1) := by decide +kernel
theorem dL_isSold_166 : decode cL_isSold 166 = .ok (.goto 4, 3) := by decide +kernel
theorem dL_isSold_169 : decode cL_isSold 169 = .ok (.iconst 0, 1) := by decide +kernel
theorem dL_isSold_170 : decode cL_isSold 170 = .ok (.istore 11, 2) := by decide +kernel
theorem dL_isSold_172 : decode cL_isSold 172 = .ok (.aload_n 0, 1) := by decide +kernel
theorem dL_isSold_173 : decode cL_isSold 173 = .ok (.iload_n 1, 1) := by decide +kernel
theorem dL_isSold_174 : decode cL_isSold 174 = .ok (.invokevirtual 41, 3) := by decide +kernel
theorem dL_isSold_177 : decode cL_isSold 177 = .ok (.iload 11, 2) := by decide +kernel
theorem dL_isSold_179 : decode cL_isSold 179 = .ok (.ifCond .eq 8, 3) := by decide +kernel
theorem dL_isSold_182 : decode cL_isSold 182 = .ok (.iload 8, 2) := by decide +kernel
theorem dL_isSold_184 : decode cL_isSold 184 = .ok (.goto 5, 3) := by decide +kernel
theorem dL_isSold_187 : decode cL_isSold 187 = .ok (.bipush (-5), 2) := by decide +kernel
theorem dL_isSold_189 : decode cL_isSold 189 = .ok (.if_icmp .ne 26, 3) := by decide +kernel
theorem dL_isSold_192 : decode cL_isSold 192 = .ok (.aload_n 0, 1) := by decide +kernel
theorem dL_isSold_193 : decode cL_isSold 193 = .ok (.iconst 4, 1) := by decide +kernel
theorem dL_isSold_194 : decode cL_isSold 194 = .ok (.invokevirtual 34, 3) := by decide +kernel
theorem dL_isSold_197 : decode cL_isSold 197 = .ok (.lload 9, 2) := by decide +kernel
theorem dL_isSold_199 : decode cL_isSold 199 = .ok (.iload 11, 2) := by decide +kernel
theorem dL_isSold_201 : decode cL_isSold 201 = .ok (.ifCond .eq 7, 3) := by decide +kernel
theorem dL_isSold_204 : decode cL_isSold 204 = .ok (.iload_n 1, 1) := by decide +kernel
theorem dL_isSold_205 : decode cL_isSold 205 = .ok (.goto 4, 3) := by decide +kernel
theorem dL_isSold_208 : decode cL_isSold 208 = .ok (.iconst 0, 1) := by decide +kernel
theorem dL_isSold_209 : decode cL_isSold 209 = .ok (.i2l, 1) := by decide +kernel
theorem dL_isSold_210 : decode cL_isSold 210 = .ok (.ladd, 1) := by decide +kernel
theorem dL_isSold_211 : decode cL_isSold 211 = .ok (.lcmp, 1) := by decide +kernel
theorem dL_isSold_212 : decode cL_isSold 212 = .ok (.ifCond .eq 5, 3) := by decide +kernel
theorem dL_isSold_215 : decode cL_isSold 215 = .ok (.iconst 0, 1) := by decide +kernel
theorem dL_isSold_216 : decode cL_isSold 216 = .ok (.ireturn, 1) := by decide +kernel
theorem dL_isSold_217 : decode cL_isSold 217 = .ok (.iconst 0, 1) := by decide +kernel
theorem dL_isSold_218 : decode cL_isSold 218 = .ok (.istore 12, 2) := by decide +kernel
theorem dL_isSold_220 : decode cL_isSold 220 = .ok (.iload 12, 2) := by decide +kernel
theorem dL_isSold_222 : decode cL_isSold 222 = .ok (.iload_n 2, 1) := by decide +kernel
theorem dL_isSold_223 : decode cL_isSold 223 = .ok (.if_icmp .ge 45, 3) := by decide +kernel
theorem dL_isSold_226 : decode cL_isSold 226 = .ok (.iload 11, 2) := by decide +kernel
theorem dL_isSold_228 : decode cL_isSold 228 = .ok (.ifCond .eq 40, 3) := by decide +kernel
theorem dL_isSold_231 : decode cL_isSold 231 = .ok (.aload_n 0, 1) := by decide +kernel
theorem dL_isSold_232 : decode cL_isSold 232 = .ok (.iload 12, 2) := by decide +kernel
theorem dL_isSold_234 : decode cL_isSold 234 = .ok (.iconst 2, 1) := by decide +kernel
theorem dL_isSold_235 : decode cL_isSold 235 = .ok (.invokevirtual 18, 3) := by decide +kernel
theorem dL_isSold_238 : decode cL_isSold 238 = .ok (.aload_n 3, 1) := by decide +kernel
theorem dL_isSold_239 : decode cL_isSold 239 = .ok (.iload 12, 2) := by decide +kernel
theorem dL_isSold_241 : decode cL_isSold 241 = .ok (.iaload, 1) := by decide +kernel
theorem dL_isSold_242 : decode cL_isSold 242 = .ok (.if_icmp .ne 18, 3) := by decide +kernel
theorem dL_isSold_245 : decode cL_isSold 245 = .ok (.aload_n 0, 1) := by decide +kernel
theorem dL_isSold_246 : decode cL_isSold 246 = .ok (.iload 12, 2) := by decide +kernel
theorem dL_isSold_248 : decode cL_isSold 248 = .ok (.iconst 3, 1) := by decide +kernel
theorem dL_isSold_249 : decode cL_isSold 249 = .ok (.invokevirtual 18, 3) := by decide +kernel
theorem dL_isSold_252 : decode cL_isSold 252 = .ok (.aload 4, 2) := by decide +kernel
theorem dL_isSold_254 : decode cL_isSold 254 = .ok (.iload 12, 2) := by decide +kernel
theorem dL_isSold_256 : decode cL_isSold 256 = .ok (.iaload, 1) := by decide +kernel
theorem dL_isSold_257 : decode cL_isSold 257 = .ok (.if_icmp .eq 5, 3) := by decide +kernel
theorem dL_isSold_260 : decode cL_isSold 260 = .ok (.iconst 0, 1) := by decide +kernel
theorem dL_isSold_261 : decode cL_isSold 261 = .ok (.ireturn, 1) := by decide +kernel
theorem dL_isSold_262 : decode cL_isSold 262 = .ok (.iinc 12 1, 3) := by decide +kernel
theorem dL_isSold_265 : decode cL_isSold 265 = .ok (.goto (-45), 3) := by decide +kernel
theorem dL_isSold_268 : decode cL_isSold 268 = .ok (.iconst 1, 1) := by decide +kernel
theorem dL_isSold_269 : decode cL_isSold 269 = .ok (.ireturn, 1) := by decide +kernel
set_option maxRecDepth 20000 in
theorem ggL_isDoor_X9_van : GoodIn wsL_isDoor wsX9_van := goodIn_r _ [5, 6, 7, 8, 9, 10, 11, 12, 13, 14, 15, 16, 17, 18, 19, 20, 21, 22, 23, 24, 25, 26, 27, 28, 4, 29, 30, 31, 32, 33, 34, 35, 36, 37, 38, 39, 40, 41, 42, 43, 44, 45, 46, 47, 48, 49, 50, 51, 52, 53, 54, 55, 56, 57, 58, 59, 60, 61, 62, 63, 64, 89, 90, 91, 92, 93, 94, 95, 96, 97, 98, 99, 100, 101, 102, 103, 104, 105, 106, 107, 108, 109, 110, 111, 112, 113, 114, 115, 116, 117, 118, 119, 120, 121] (by decide +kernel) (by decide +kernel)
set_option maxRecDepth 20000 in
theorem gL_isDoor_X9_van : GoodIn wsL_isDoor (wsV RL 8 RX9 yX9_van wsX9_van) := goodIn_app (goodIn_of _ (by decide +kernel)) ggL_isDoor_X9_van
set_option maxRecDepth 20000 in
theorem ggL_isDoor_X9_open : GoodIn wsL_isDoor wsX9_open := goodIn_r _ [68, 7, 12, 10, 17, 69, 70, 71, 39, 72, 73, 74, 75, 76, 51, 77, 54, 78, 49, 50, 52, 53, 55, 56, 57, 58, 59, 60, 61, 62, 31, 32, 33, 34, 35, 28, 4, 29, 63, 64, 79, 80, 81, 82, 83, 84, 48, 89, 90, 91, 92, 93, 94, 95, 96, 97, 98, 99, 100, 101, 102, 103, 104, 105, 106, 107, 108, 109, 110, 111, 112, 113, 114, 115, 116, 121] (by decide +kernel) (by decide +kernel)
set_option maxRecDepth 20000 in
theorem gL_isDoor_X9_open : GoodIn wsL_isDoor (wsV RL 44 RX9 yX9_open wsX9_open) := goodIn_app (goodIn_of _ (by decide +kernel)) ggL_isDoor_X9_open
set_option maxRecDepth 20000 in
theorem ggL_isDoor_X9_shut : GoodIn wsL_isDoor wsX9_shut := goodIn_r _ [88, 7, 10, 17, 48, 49, 50, 51, 52, 53, 54, 55, 56, 57, 58, 59, 60, 61, 62, 31, 32, 33, 34, 35, 28, 4, 29, 63, 64, 89, 90, 91, 92, 93, 94, 95, 96, 97, 98, 99, 100, 101, 102, 103, 104, 105, 106, 107, 108, 109, 110, 111, 121] (by decide +kernel) (by decide +kernel)
set_option maxRecDepth 20000 in
theorem gL_isDoor_X9_shut : GoodIn wsL_isDoor (wsV RL 48 RX9 yX9_shut wsX9_shut) := goodIn_app (goodIn_of _ (by decide +kernel)) ggL_isDoor_X9_shut
theorem dL_isDoor_0 : decode cL_isDoor 0 = .ok (.aload_n 0, 1) := by decide +kernel
theorem dL_isDoor_1 : decode cL_isDoor 1 = .ok (.iconst 4, 1) := by decide +kernel
theorem dL_isDoor_2 : decode cL_isDoor 2 = .ok (.invokevirtual 8, 3) := by decide +kernel
theorem dL_isDoor_5 : decode cL_isDoor 5 = .ok (.istore_n 1, 1) := by decide +kernel
theorem dL_isDoor_6 : decode cL_isDoor 6 = .ok (.aload_n 0, 1) := by decide +kernel
theorem dL_isDoor_7 : decode cL_isDoor 7 = .ok (.bipush 8, 2) := by decide +kernel
theorem dL_isDoor_9 : decode cL_isDoor 9 = .ok (.invokevirtual 8, 3) := by decide +kernel
theorem dL_isDoor_12 : decode cL_isDoor 12 = .ok (.iconst 1, 1) := by decide +kernel
theorem dL_isDoor_13 : decode cL_isDoor 13 = .ok (.if_icmp .ne 7, 3) := by decide +kernel
theorem dL_isDoor_16 : decode cL_isDoor 16 = .ok (.iconst 1, 1) := by decide +kernel
theorem dL_isDoor_17 : decode cL_isDoor 17 = .ok (.goto 4, 3) := by decide +kernel
theorem dL_isDoor_20 : decode cL_isDoor 20 = .ok (.iconst 0, 1) := by decide +kernel
theorem dL_isDoor_21 : decode cL_isDoor 21 = .ok (.istore_n 2, 1) := by decide +kernel
theorem dL_isDoor_22 : decode cL_isDoor 22 = .ok (.iload_n 2, 1) := by decide +kernel
theorem dL_isDoor_23 : decode cL_isDoor 23 = .ok (.ifCond .eq 44, 3) := by decide +kernel
theorem dL_isDoor_26 : decode cL_isDoor 26 = .ok (.aload_n 0, 1) := by decide +kernel
theorem dL_isDoor_27 : decode cL_isDoor 27 = .ok (.invokevirtual 44, 3) := by decide +kernel
theorem dL_isDoor_30 : decode cL_isDoor 30 = .ok (.bipush (-5), 2) := by decide +kernel
theorem dL_isDoor_32 : decode cL_isDoor 32 = .ok (.if_icmp .ne 33, 3) := by decide +kernel
theorem dL_isDoor_35 : decode cL_isDoor 35 = .ok (.aload_n 0, 1) := by decide +kernel
theorem dL_isDoor_36 : decode cL_isDoor 36 = .ok (.invokevirtual 48, 3) := by decide +kernel
theorem dL_isDoor_39 : decode cL_isDoor 39 = .ok (.iload_n 1, 1) := by decide +kernel
theorem dL_isDoor_40 : decode cL_isDoor 40 = .ok (.if_icmp .ne 25, 3) := by decide +kernel
theorem dL_isDoor_43 : decode cL_isDoor 43 = .ok (.aload_n 0, 1) := by decide +kernel
theorem dL_isDoor_44 : decode cL_isDoor 44 = .ok (.bipush 8, 2) := by decide +kernel
theorem dL_isDoor_46 : decode cL_isDoor 46 = .ok (.invokevirtual 8, 3) := by decide +kernel
theorem dL_isDoor_49 : decode cL_isDoor 49 = .ok (.ifCond .ne 16, 3) := by decide +kernel
theorem dL_isDoor_52 : decode cL_isDoor 52 = .ok (.aload_n 0, 1) := by decide +kernel
theorem dL_isDoor_53 : decode cL_isDoor 53 = .ok (.invokevirtual 48, 3) := by decide +kernel
theorem dL_isDoor_56 : decode cL_isDoor 56 = .ok (.bipush (-5), 2) := by decide +kernel
theorem dL_isDoor_58 : decode cL_isDoor 58 = .ok (.if_icmp .ne 7, 3) := by decide +kernel
theorem dL_isDoor_61 : decode cL_isDoor 61 = .ok (.iconst 1, 1) := by decide +kernel
theorem dL_isDoor_62 : decode cL_isDoor 62 = .ok (.goto 4, 3) := by decide +kernel
theorem dL_isDoor_65 : decode cL_isDoor 65 = .ok (.iconst 0, 1) := by decide +kernel
theorem dL_isDoor_66 : decode cL_isDoor 66 = .ok (.ireturn, 1) := by decide +kernel
theorem dL_isDoor_67 : decode cL_isDoor 67 = .ok (.aload_n 0, 1) := by decide +kernel
theorem dL_isDoor_68 : decode cL_isDoor 68 = .ok (.bipush 10, 2) := by decide +kernel
theorem dL_isDoor_70 : decode cL_isDoor 70 = .ok (.invokevirtual 8, 3) := by decide +kernel
theorem dL_isDoor_73 : decode cL_isDoor 73 = .ok (.ifCond .le 7, 3) := by decide +kernel
theorem dL_isDoor_76 : decode cL_isDoor 76 = .ok (.iconst 1, 1) := by decide +kernel
theorem dL_isDoor_77 : decode cL_isDoor 77 = .ok (.goto 4, 3) := by decide +kernel
theorem dL_isDoor_80 : decode cL_isDoor 80 = .ok (.iconst 0, 1) := by decide +kernel
theorem dL_isDoor_81 : decode cL_isDoor 81 = .ok (.istore_n 3, 1) := by decide +kernel
theorem dL_isDoor_82 : decode cL_isDoor 82 = .ok (.iload_n 1, 1) := by decide +kernel
theorem dL_isDoor_83 : decode cL_isDoor 83 = .ok (.aload_n 0, 1) := by decide +kernel
theorem dL_isDoor_84 : decode cL_isDoor 84 = .ok (.bipush 23, 2) := by decide +kernel
theorem dL_isDoor_86 : decode cL_isDoor 86 = .ok (.invokevirtual 8, 3) := by decide +kernel
theorem dL_isDoor_89 : decode cL_isDoor 89 = .ok (.if_icmp .lt 7, 3) := by decide +kernel
theorem dL_isDoor_92 : decode cL_isDoor 92 = .ok (.iconst 1, 1) := by decide +kernel
theorem dL_isDoor_93 : decode cL_isDoor 93 = .ok (.goto 4, 3) := by decide +kernel
theorem dL_isDoor_96 : decode cL_isDoor 96 = .ok (.iconst 0, 1) := by decide +kernel
theorem dL_isDoor_97 : decode cL_isDoor 97 = .ok (.istore 4, 2) := by decide +kernel
theorem dL_isDoor_99 : decode cL_isDoor 99 = .ok (.aload_n 0, 1) := by decide +kernel
theorem dL_isDoor_100 : decode cL_isDoor 100 = .ok (.bipush 6, 2) := by decide +kernel
theorem dL_isDoor_102 : decode cL_isDoor 102 = .ok (.invokevirtual 8, 3) := by decide +kernel
theorem dL_isDoor_105 : decode cL_isDoor 105 = .ok (.istore 5, 2) := by decide +kernel
theorem dL_isDoor_107 : decode cL_isDoor 107 = .ok (.aload_n 0, 1) := by decide +kernel
theorem dL_isDoor_108 : decode cL_isDoor 108 = .ok (.bipush 7, 2) := by decide +kernel
theorem dL_isDoor_110 : decode cL_isDoor 110 = .ok (.invokevirtual 8, 3) := by decide +kernel
theorem dL_isDoor_113 : decode cL_isDoor 113 = .ok (.istore 6, 2) := by decide +kernel
theorem dL_isDoor_115 : decode cL_isDoor 115 = .ok (.aload_n 0, 1) := by decide +kernel
theorem dL_isDoor_116 : decode cL_isDoor 116 = .ok (.invokevirtual 44, 3) := by decide +kernel
theorem dL_isDoor_119 : decode cL_isDoor 119 = .ok (.iload_n 3, 1) := by decide +kernel
theorem dL_isDoor_120 : decode cL_isDoor 120 = .ok (.ifCond .eq 8, 3) := by decide +kernel
theorem dL_isDoor_123 : decode cL_isDoor 123 = .ok (.bipush (-5), 2) := by decide +kernel
theorem dL_isDoor_125 : decode cL_isDoor 125 = .ok (.goto 14, 3) := by decide +kernel
theorem dL_isDoor_128 : decode cL_isDoor 128 = .ok (.iload 4, 2) := by decide +kernel
theorem dL_isDoor_130 : decode cL_isDoor 130 = .ok (.ifCond .eq 8, 3) := by decide +kernel
theorem dL_isDoor_133 : decode cL_isDoor 133 = .ok (.bipush (-6), 2) := by decide +kernel
theorem dL_isDoor_135 : decode cL_isDoor 135 = .ok (.goto 4, 3) := by decide +kernel
theorem dL_isDoor_138 : decode cL_isDoor 138 = .ok (.iload_n 1, 1) := by decide +kernel
theorem dL_isDoor_139 : decode cL_isDoor 139 = .ok (.if_icmp .ne 26, 3) := by decide +kernel
theorem dL_isDoor_142 : decode cL_isDoor 142 = .ok (.aload_n 0, 1) := by decide +kernel
theorem dL_isDoor_143 : decode cL_isDoor 143 = .ok (.bipush 8, 2) := by decide +kernel
theorem dL_isDoor_145 : decode cL_isDoor 145 = .ok (.invokevirtual 8, 3) := by decide +kernel
theorem dL_isDoor_148 : decode cL_isDoor 148 = .ok (.iload_n 3, 1) := by decide +kernel
theorem dL_isDoor_149 : decode cL_isDoor 149 = .ok (.ifCond .ne 8, 3) := by decide +kernel
theorem dL_isDoor_152 : decode cL_isDoor 152 = .ok (.iload 4, 2) := by decide +kernel
theorem dL_isDoor_154 : decode cL_isDoor 154 = .ok (.ifCond .eq 7, 3) := by decide +kernel
theorem dL_isDoor_157 : decode cL_isDoor 157 = .ok (.iconst 0, 1) := by decide +kernel
theorem dL_isDoor_158 : decode cL_isDoor 158 = .ok (.goto 4, 3) := by decide +kernel
theorem dL_isDoor_161 : decode cL_isDoor 161 = .ok (.iconst 1, 1) := by decide +kernel
theorem dL_isDoor_162 : decode cL_isDoor 162 = .ok (.if_icmp .eq 5, 3) := by decide +kernel
theorem dL_isDoor_165 : decode cL_isDoor 165 = .ok (.iconst 0, 1) := by decide +kernel
theorem dL_isDoor_166 : decode cL_isDoor 166 = .ok (.ireturn, 1) := by decide +kernel
theorem dL_isDoor_167 : decode cL_isDoor 167 = .ok (.iload_n 3, 1) := by decide +kernel
theorem dL_isDoor_168 : decode cL_isDoor 168 = .ok (.ifCond .ne 12, 3) := by decide +kernel
theorem dL_isDoor_171 : decode cL_isDoor 171 = .ok (.iload 4, 2) := by decide +kernel
theorem dL_isDoor_173 : decode cL_isDoor 173 = .ok (.ifCond .eq 7, 3) := by decide +kernel
theorem dL_isDoor_176 : decode cL_isDoor 176 = .ok (.iconst 1, 1) := by decide +kernel
theorem dL_isDoor_177 : decode cL_isDoor 177 = .ok (.goto 4, 3) := by decide +kernel
theorem dL_isDoor_180 : decode cL_isDoor 180 = .ok (.iconst 0, 1) := by decide +kernel
theorem dL_isDoor_181 : decode cL_isDoor 181 = .ok (.istore 7, 2) := by decide +kernel
theorem dL_isDoor_183 : decode cL_isDoor 183 = .ok (.aload_n 0, 1) := by decide +kernel
theorem dL_isDoor_184 : decode cL_isDoor 184 = .ok (.bipush 6, 2) := by decide +kernel
theorem dL_isDoor_186 : decode cL_isDoor 186 = .ok (.invokevirtual 8, 3) := by decide +kernel
theorem dL_isDoor_189 : decode cL_isDoor 189 = .ok (.iload 7, 2) := by decide +kernel
theorem dL_isDoor_191 : decode cL_isDoor 191 = .ok (.ifCond .eq 7, 3) := by decide +kernel
theorem dL_isDoor_194 : decode cL_isDoor 194 = .ok (.iconst 1, 1) := by decide +kernel
theorem dL_isDoor_195 : decode cL_isDoor 195 = .ok (.goto 5, 3) := by decide +kernel
theorem dL_isDoor_198 : decode cL_isDoor 198 = .ok (.iload 5, 2) := by decide +kernel
theorem dL_isDoor_200 : decode cL_isDoor 200 = .ok (.if_icmp .ne 32, 3) := by decide +kernel
theorem dL_isDoor_203 : decode cL_isDoor 203 = .ok (.aload_n 0, 1) := by decide +kernel
theorem dL_isDoor_204 : decode cL_isDoor 204 = .ok (.bipush 7, 2) := by decide +kernel
theorem dL_isDoor_206 : decode cL_isDoor 206 = .ok (.invokevirtual 8, 3) := by decide +kernel
theorem dL_isDoor_209 : decode cL_isDoor 209 = .ok (.iload 7, 2) := by decide +kernel
theorem dL_isDoor_211 : decode cL_isDoor 211 = .ok (.ifCond .eq 12, 3) := by decide +kernel
theorem dL_isDoor_214 : decode cL_isDoor 214 = .ok (.iload 5, 2) := by decide +kernel
theorem dL_isDoor_216 : decode cL_isDoor 216 = .ok (.ifCond .ne 7, 3) := by decide +kernel
theorem dL_isDoor_219 : decode cL_isDoor 219 = .ok (.iconst 0, 1) := by decide +kernel
theorem dL_isDoor_220 : decode cL_isDoor 220 = .ok (.goto 5, 3) := by decide +kernel
theorem dL_isDoor_223 : decode cL_isDoor 223 = .ok (.iload 6, 2) := by decide +kernel
theorem dL_isDoor_225 : decode cL_isDoor 225 = .ok (.if_icmp .ne 7, 3) := by decide +kernel
theorem dL_isDoor_228 : decode cL_isDoor 228 = .ok (.iconst 1, 1) := by decide +kernel
theorem dL_isDoor_229 : decode cL_isDoor 229 = .ok (.goto 4, 3) := by decide +kernel
theorem dL_isDoor_232 : decode cL_isDoor 232 = .ok (.iconst 0, 1) := by decide +kernel
theorem dL_isDoor_233 : decode cL_isDoor 233 = .ok (.ireturn, 1) := by decide +kernel
