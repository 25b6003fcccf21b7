theorem dX10_init_0 : decode cX10_init 0 = .ok (.aload_n 0, 1) := by decide +kernel
theorem dX10_init_1 : decode cX10_init 1 = .ok (.invokespecial 1, 3) := by decide +kernel
theorem dX10_init_4 : decode cX10_init 4 = .ok (.aload_n 0, 1) := by decide +kernel
theorem dX10_init_5 : decode cX10_init 5 = .ok (.bipush 93, 2) := by decide +kernel
theorem dX10_init_7 : decode cX10_init 7 = .ok (.newarray .long, 2) := by decide +kernel
theorem dX10_init_9 : decode cX10_init 9 = .ok (.putfield 7, 3) := by decide +kernel
theorem dX10_init_12 : decode cX10_init 12 = .ok (.aload_n 0, 1) := by decide +kernel
theorem dX10_init_13 : decode cX10_init 13 = .ok (.bipush 93, 2) := by decide +kernel
theorem dX10_init_15 : decode cX10_init 15 = .ok (.newarray .long, 2) := by decide +kernel
theorem dX10_init_17 : decode cX10_init 17 = .ok (.putfield 13, 3) := by decide +kernel
theorem dX10_init_20 : decode cX10_init 20 = .ok (.aload_n 0, 1) := by decide +kernel
theorem dX10_init_21 : decode cX10_init 21 = .ok (.sipush 186, 3) := by decide +kernel
theorem dX10_init_24 : decode cX10_init 24 = .ok (.newarray .long, 2) := by decide +kernel
theorem dX10_init_26 : decode cX10_init 26 = .ok (.putfield 16, 3) := by decide +kernel
theorem dX10_init_29 : decode cX10_init 29 = .ok (.aload_n 0, 1) := by decide +kernel
theorem dX10_init_30 : decode cX10_init 30 = .ok (.iconst 2, 1) := by decide +kernel
theorem dX10_init_31 : decode cX10_init 31 = .ok (.newarray .boolean, 2) := by decide +kernel
theorem dX10_init_33 : decode cX10_init 33 = .ok (.putfield 19, 3) := by decide +kernel
theorem dX10_init_36 : decode cX10_init 36 = .ok (.aload_n 0, 1) := by decide +kernel
theorem dX10_init_37 : decode cX10_init 37 = .ok (.bipush 80, 2) := by decide +kernel
theorem dX10_init_39 : decode cX10_init 39 = .ok (.newarray .int, 2) := by decide +kernel
theorem dX10_init_41 : decode cX10_init 41 = .ok (.putfield 23, 3) := by decide +kernel
theorem dX10_init_44 : decode cX10_init 44 = .ok (.aload_n 0, 1) := by decide +kernel
theorem dX10_init_45 : decode cX10_init 45 = .ok (.bipush 60, 2) := by decide +kernel
theorem dX10_init_47 : decode cX10_init 47 = .ok (.newarray .int, 2) := by decide +kernel
theorem dX10_init_49 : decode cX10_init 49 = .ok (.putfield 27, 3) := by decide +kernel
theorem dX10_init_52 : decode cX10_init 52 = .ok (.aload_n 0, 1) := by decide +kernel
theorem dX10_init_53 : decode cX10_init 53 = .ok (.getfield 7, 3) := by decide +kernel
theorem dX10_init_56 : decode cX10_init 56 = .ok (.bipush 78, 2) := by decide +kernel
theorem dX10_init_58 : decode cX10_init 58 = .ok (.ldc2_w 30, 3) := by decide +kernel
theorem dX10_init_61 : decode cX10_init 61 = .ok (.lastore, 1) := by decide +kernel
theorem dX10_init_62 : decode cX10_init 62 = .ok (.aload_n 0, 1) := by decide +kernel
theorem dX10_init_63 : decode cX10_init 63 = .ok (.getfield 7, 3) := by decide +kernel
theorem dX10_init_66 : decode cX10_init 66 = .ok (.bipush 84, 2) := by decide +kernel
theorem dX10_init_68 : decode cX10_init 68 = .ok (.ldc2_w 32, 3) := by decide +kernel
theorem dX10_init_71 : decode cX10_init 71 = .ok (.lastore, 1) := by decide +kernel
theorem dX10_init_72 : decode cX10_init 72 = .ok (.aload_n 0, 1) := by decide +kernel
theorem dX10_init_73 : decode cX10_init 73 = .ok (.getfield 7, 3) := by decide +kernel
theorem dX10_init_76 : decode cX10_init 76 = .ok (.bipush 64, 2) := by decide +kernel
theorem dX10_init_78 : decode cX10_init 78 = .ok (.ldc2_w 34, 3) := by decide +kernel
theorem dX10_init_81 : decode cX10_init 81 = .ok (.lastore, 1) := by decide +kernel
theorem dX10_init_82 : decode cX10_init 82 = .ok (.aload_n 0, 1) := by decide +kernel
theorem dX10_init_83 : decode cX10_init 83 = .ok (.getfield 7, 3) := by decide +kernel
theorem dX10_init_86 : decode cX10_init 86 = .ok (.bipush 65, 2) := by decide +kernel
theorem dX10_init_88 : decode cX10_init 88 = .ok (.ldc2_w 36, 3) := by decide +kernel
theorem dX10_init_91 : decode cX10_init 91 = .ok (.lastore, 1) := by decide +kernel
theorem dX10_init_92 : decode cX10_init 92 = .ok (.aload_n 0, 1) := by decide +kernel
theorem dX10_init_93 : decode cX10_init 93 = .ok (.getfield 7, 3) := by decide +kernel
theorem dX10_init_96 : decode cX10_init 96 = .ok (.bipush 66, 2) := by decide +kernel
theorem dX10_init_98 : decode cX10_init 98 = .ok (.ldc2_w 34, 3) := by decide +kernel
theorem dX10_init_101 : decode cX10_init 101 = .ok (.lastore, 1) := by decide +kernel
theorem dX10_init_102 : decode cX10_init 102 = .ok (.aload_n 0, 1) := by decide +kernel
theorem dX10_init_103 : decode cX10_init 103 = .ok (.getfield 7, 3) := by decide +kernel
theorem dX10_init_106 : decode cX10_init 106 = .ok (.bipush 67, 2) := by decide +kernel
theorem dX10_init_108 : decode cX10_init 108 = .ok (.ldc2_w 38, 3) := by decide +kernel
theorem dX10_init_111 : decode cX10_init 111 = .ok (.lastore, 1) := by decide +kernel
theorem dX10_init_112 : decode cX10_init 112 = .ok (.aload_n 0, 1) := by decide +kernel
theorem dX10_init_113 : decode cX10_init 113 = .ok (.getfield 7, 3) := by decide +kernel
theorem dX10_init_116 : decode cX10_init 116 = .ok (.bipush 68, 2) := by decide +kernel
theorem dX10_init_118 : decode cX10_init 118 = .ok (.ldc2_w 40, 3) := by decide +kernel
theorem dX10_init_121 : decode cX10_init 121 = .ok (.lastore, 1) := by decide +kernel
theorem dX10_init_122 : decode cX10_init 122 = .ok (.aload_n 0, 1) := by decide +kernel
theorem dX10_init_123 : decode cX10_init 123 = .ok (.getfield 7, 3) := by decide +kernel
theorem dX10_init_126 : decode cX10_init 126 = .ok (.bipush 69, 2) := by decide +kernel
theorem dX10_init_128 : decode cX10_init 128 = .ok (.ldc2_w 42, 3) := by decide +kernel
theorem dX10_init_131 : decode cX10_init 131 = .ok (.lastore, 1) := by decide +kernel
theorem dX10_init_132 : decode cX10_init 132 = .ok (.aload_n 0, 1) := by decide +kernel
theorem dX10_init_133 : decode cX10_init 133 = .ok (.getfield 7, 3) := by decide +kernel
theorem dX10_init_136 : decode cX10_init 136 = .ok (.bipush 70, 2) := by decide +kernel
theorem dX10_init_138 : decode cX10_init 138 = .ok (.ldc2_w 44, 3) := by decide +kernel
theorem dX10_init_141 : decode cX10_init 141 = .ok (.lastore, 1) := by decide +kernel
theorem dX10_init_142 : decode cX10_init 142 = .ok (.aload_n 0, 1) := by decide +kernel
theorem dX10_init_143 : decode cX10_init 143 = .ok (.getfield 7, 3) := by decide +kernel
theorem dX10_init_146 : decode cX10_init 146 = .ok (.bipush 71, 2) := by decide +kernel
theorem dX10_init_148 : decode cX10_init 148 = .ok (.ldc2_w 38, 3) := by decide +kernel
theorem dX10_init_151 : decode cX10_init 151 = .ok (.lastore, 1) := by decide +kernel
theorem dX10_init_152 : decode cX10_init 152 = .ok (.aload_n 0, 1) := by decide +kernel
theorem dX10_init_153 : decode cX10_init 153 = .ok (.getfield 7, 3) := by decide +kernel
theorem dX10_init_156 : decode cX10_init 156 = .ok (.bipush 72, 2) := by decide +kernel
theorem dX10_init_158 : decode cX10_init 158 = .ok (.ldc2_w 42, 3) := by decide +kernel
theorem dX10_init_161 : decode cX10_init 161 = .ok (.lastore, 1) := by decide +kernel
theorem dX10_init_162 : decode cX10_init 162 = .ok (.aload_n 0, 1) := by decide +kernel
theorem dX10_init_163 : decode cX10_init 163 = .ok (.getfield 7, 3) := by decide +kernel
theorem dX10_init_166 : decode cX10_init 166 = .ok (.bipush 73, 2) := by decide +kernel
theorem dX10_init_168 : decode cX10_init 168 = .ok (.ldc2_w 46, 3) := by decide +kernel
theorem dX10_init_171 : decode cX10_init 171 = .ok (.lastore, 1) := by decide +kernel
theorem dX10_init_172 : decode cX10_init 172 = .ok (.aload_n 0, 1) := by decide +kernel
theorem dX10_init_173 : decode cX10_init 173 = .ok (.getfield 7, 3) := by decide +kernel
theorem dX10_init_176 : decode cX10_init 176 = .ok (.bipush 74, 2) := by decide +kernel
theorem dX10_init_178 : decode cX10_init 178 = .ok (.ldc2_w 42, 3) := by decide +kernel
theorem dX10_init_181 : decode cX10_init 181 = .ok (.lastore, 1) := by decide +kernel
theorem dX10_init_182 : decode cX10_init 182 = .ok (.return_, 1) := by decide +kernel
theorem dX10_in_0 : decode cX10_in 0 = .ok (.lload_n 0, 1) := by decide +kernel
theorem dX10_in_1 : decode cX10_in 1 = .ok (.lload_n 2, 1) := by decide +kernel
theorem dX10_in_2 : decode cX10_in 2 = .ok (.lcmp, 1) := by decide +kernel
theorem dX10_in_3 : decode cX10_in 3 = .ok (.ifCond .lt 14, 3) := by decide +kernel
theorem dX10_in_6 : decode cX10_in 6 = .ok (.lload_n 0, 1) := by decide +kernel
theorem dX10_in_7 : decode cX10_in 7 = .ok (.lload 4, 2) := by decide +kernel
theorem dX10_in_9 : decode cX10_in 9 = .ok (.lcmp, 1) := by decide +kernel
theorem dX10_in_10 : decode cX10_in 10 = .ok (.ifCond .gt 7, 3) := by decide +kernel
theorem dX10_in_13 : decode cX10_in 13 = .ok (.iconst 1, 1) := by decide +kernel
theorem dX10_in_14 : decode cX10_in 14 = .ok (.goto 4, 3) := by decide +kernel
theorem dX10_in_17 : decode cX10_in 17 = .ok (.iconst 0, 1) := by decide +kernel
theorem dX10_in_18 : decode cX10_in 18 = .ok (.ireturn, 1) := by decide +kernel
theorem dX10_of_0 : decode cX10_of 0 = .ok (.aload_n 0, 1) := by decide +kernel
theorem dX10_of_1 : decode cX10_of 1 = .ok (.getfield 7, 3) := by decide +kernel
theorem dX10_of_4 : decode cX10_of 4 = .ok (.iconst 0, 1) := by decide +kernel
theorem dX10_of_5 : decode cX10_of 5 = .ok (.iconst 4, 1) := by decide +kernel
theorem dX10_of_6 : decode cX10_of 6 = .ok (.iload_n 1, 1) := by decide +kernel
theorem dX10_of_7 : decode cX10_of 7 = .ok (.imul, 1) := by decide +kernel
theorem dX10_of_8 : decode cX10_of 8 = .ok (.iadd, 1) := by decide +kernel
theorem dX10_of_9 : decode cX10_of 9 = .ok (.iload_n 2, 1) := by decide +kernel
theorem dX10_of_10 : decode cX10_of 10 = .ok (.iadd, 1) := by decide +kernel
theorem dX10_of_11 : decode cX10_of 11 = .ok (.laload, 1) := by decide +kernel
theorem dX10_of_12 : decode cX10_of 12 = .ok (.lreturn, 1) := by decide +kernel
theorem dX10_lay_0 : decode cX10_lay 0 = .ok (.aload_n 0, 1) := by decide +kernel
theorem dX10_lay_1 : decode cX10_lay 1 = .ok (.getfield 7, 3) := by decide +kernel
theorem dX10_lay_4 : decode cX10_lay 4 = .ok (.iconst 0, 1) := by decide +kernel
theorem dX10_lay_5 : decode cX10_lay 5 = .ok (.iconst 4, 1) := by decide +kernel
theorem dX10_lay_6 : decode cX10_lay 6 = .ok (.iload_n 1, 1) := by decide +kernel
theorem dX10_lay_7 : decode cX10_lay 7 = .ok (.imul, 1) := by decide +kernel
theorem dX10_lay_8 : decode cX10_lay 8 = .ok (.iadd, 1) := by decide +kernel
theorem dX10_lay_9 : decode cX10_lay 9 = .ok (.iload_n 2, 1) := by decide +kernel
theorem dX10_lay_10 : decode cX10_lay 10 = .ok (.iadd, 1) := by decide +kernel
theorem dX10_lay_11 : decode cX10_lay 11 = .ok (.lload_n 3, 1) := by decide +kernel
theorem dX10_lay_12 : decode cX10_lay 12 = .ok (.lastore, 1) := by decide +kernel
theorem dX10_lay_13 : decode cX10_lay 13 = .ok (.return_, 1) := by decide +kernel
theorem dX10_boxes_0 : decode cX10_boxes 0 = .ok (.aload_n 0, 1) := by decide +kernel
theorem dX10_boxes_1 : decode cX10_boxes 1 = .ok (.getfield 7, 3) := by decide +kernel
theorem dX10_boxes_4 : decode cX10_boxes 4 = .ok (.bipush 75, 2) := by decide +kernel
theorem dX10_boxes_6 : decode cX10_boxes 6 = .ok (.laload, 1) := by decide +kernel
theorem dX10_boxes_7 : decode cX10_boxes 7 = .ok (.l2i, 1) := by decide +kernel
theorem dX10_boxes_8 : decode cX10_boxes 8 = .ok (.ireturn, 1) := by decide +kernel
theorem dX10_legs_0 : decode cX10_legs 0 = .ok (.aload_n 0, 1) := by decide +kernel
theorem dX10_legs_1 : decode cX10_legs 1 = .ok (.getfield 7, 3) := by decide +kernel
theorem dX10_legs_4 : decode cX10_legs 4 = .ok (.bipush 76, 2) := by decide +kernel
theorem dX10_legs_6 : decode cX10_legs 6 = .ok (.laload, 1) := by decide +kernel
theorem dX10_legs_7 : decode cX10_legs 7 = .ok (.l2i, 1) := by decide +kernel
theorem dX10_legs_8 : decode cX10_legs 8 = .ok (.ireturn, 1) := by decide +kernel
set_option maxRecDepth 20000 in
theorem ggX10_isBox_X10_boxes : GoodIn wsX10_isBox wsX10_boxes := goodIn_r _ [5, 6, 10, 11, 12, 13, 14, 15, 16, 17, 18, 19] (by decide +kernel) (by decide +kernel)
set_option maxRecDepth 20000 in
theorem gX10_isBox_X10_boxes : GoodIn wsX10_isBox (wsV RX10 48 RX10 yX10_boxes wsX10_boxes) := goodIn_app (goodIn_of _ (by decide +kernel)) ggX10_isBox_X10_boxes
set_option maxRecDepth 20000 in
theorem ggX10_isBox_X10_in : GoodIn wsX10_isBox wsX10_in := goodIn_r _ [9] (by decide +kernel) (by decide +kernel)
set_option maxRecDepth 20000 in
theorem gX10_isBox_X10_in : GoodIn wsX10_isBox (va_wsS RX10 52 yX10_in wsX10_in) := goodIn_app (goodIn_of _ (by decide +kernel)) ggX10_isBox_X10_in
theorem dX10_isBox_0 : decode cX10_isBox 0 = .ok (.iload_n 1, 1) := by decide +kernel
theorem dX10_isBox_1 : decode cX10_isBox 1 = .ok (.i2l, 1) := by decide +kernel
theorem dX10_isBox_2 : decode cX10_isBox 2 = .ok (.lconst 0, 1) := by decide +kernel
theorem dX10_isBox_3 : decode cX10_isBox 3 = .ok (.aload_n 0, 1) := by decide +kernel
theorem dX10_isBox_4 : decode cX10_isBox 4 = .ok (.invokevirtual 48, 3) := by decide +kernel
theorem dX10_isBox_7 : decode cX10_isBox 7 = .ok (.iconst 1, 1) := by decide +kernel
theorem dX10_isBox_8 : decode cX10_isBox 8 = .ok (.isub, 1) := by decide +kernel
theorem dX10_isBox_9 : decode cX10_isBox 9 = .ok (.i2l, 1) := by decide +kernel
theorem dX10_isBox_10 : decode cX10_isBox 10 = .ok (.invokestatic 52, 3) := by decide +kernel
theorem dX10_isBox_13 : decode cX10_isBox 13 = .ok (.ireturn, 1) := by decide +kernel
theorem dX10_isDoorOpen_0 : decode cX10_isDoorOpen 0 = .ok (.aload_n 0, 1) := by decide +kernel
theorem dX10_isDoorOpen_1 : decode cX10_isDoorOpen 1 = .ok (.getfield 7, 3) := by decide +kernel
theorem dX10_isDoorOpen_4 : decode cX10_isDoorOpen 4 = .ok (.bipush 83, 2) := by decide +kernel
theorem dX10_isDoorOpen_6 : decode cX10_isDoorOpen 6 = .ok (.laload, 1) := by decide +kernel
theorem dX10_isDoorOpen_7 : decode cX10_isDoorOpen 7 = .ok (.lconst 1, 1) := by decide +kernel
theorem dX10_isDoorOpen_8 : decode cX10_isDoorOpen 8 = .ok (.lcmp, 1) := by decide +kernel
theorem dX10_isDoorOpen_9 : decode cX10_isDoorOpen 9 = .ok (.ifCond .ne 7, 3) := by decide +kernel
theorem dX10_isDoorOpen_12 : decode cX10_isDoorOpen 12 = .ok (.iconst 1, 1) := by decide +kernel
theorem dX10_isDoorOpen_13 : decode cX10_isDoorOpen 13 = .ok (.goto 4, 3) := by decide +kernel
theorem dX10_isDoorOpen_16 : decode cX10_isDoorOpen 16 = .ok (.iconst 0, 1) := by decide +kernel
theorem dX10_isDoorOpen_17 : decode cX10_isDoorOpen 17 = .ok (.ireturn, 1) := by decide +kernel
theorem dX10_isAway_0 : decode cX10_isAway 0 = .ok (.aload_n 0, 1) := by decide +kernel
theorem dX10_isAway_1 : decode cX10_isAway 1 = .ok (.getfield 7, 3) := by decide +kernel
theorem dX10_isAway_4 : decode cX10_isAway 4 = .ok (.bipush 86, 2) := by decide +kernel
theorem dX10_isAway_6 : decode cX10_isAway 6 = .ok (.laload, 1) := by decide +kernel
theorem dX10_isAway_7 : decode cX10_isAway 7 = .ok (.lconst 1, 1) := by decide +kernel
theorem dX10_isAway_8 : decode cX10_isAway 8 = .ok (.lcmp, 1) := by decide +kernel
theorem dX10_isAway_9 : decode cX10_isAway 9 = .ok (.ifCond .ne 7, 3) := by decide +kernel
theorem dX10_isAway_12 : decode cX10_isAway 12 = .ok (.iconst 1, 1) := by decide +kernel
theorem dX10_isAway_13 : decode cX10_isAway 13 = .ok (.goto 4, 3) := by decide +kernel
theorem dX10_isAway_16 : decode cX10_isAway 16 = .ok (.iconst 0, 1) := by decide +kernel
theorem dX10_isAway_17 : decode cX10_isAway 17 = .ok (.ireturn, 1) := by decide +kernel
theorem dX10_putAside_0 : decode cX10_putAside 0 = .ok (.iconst 0, 1) := by decide +kernel
theorem dX10_putAside_1 : decode cX10_putAside 1 = .ok (.istore_n 1, 1) := by decide +kernel
theorem dX10_putAside_2 : decode cX10_putAside 2 = .ok (.iload_n 1, 1) := by decide +kernel
theorem dX10_putAside_3 : decode cX10_putAside 3 = .ok (.bipush 93, 2) := by decide +kernel
theorem dX10_putAside_5 : decode cX10_putAside 5 = .ok (.if_icmp .ge 21, 3) := by decide +kernel
theorem dX10_putAside_8 : decode cX10_putAside 8 = .ok (.aload_n 0, 1) := by decide +kernel
theorem dX10_putAside_9 : decode cX10_putAside 9 = .ok (.getfield 13, 3) := by decide +kernel
theorem dX10_putAside_12 : decode cX10_putAside 12 = .ok (.iload_n 1, 1) := by decide +kernel
theorem dX10_putAside_13 : decode cX10_putAside 13 = .ok (.aload_n 0, 1) := by decide +kernel
theorem dX10_putAside_14 : decode cX10_putAside 14 = .ok (.getfield 7, 3) := by decide +kernel
theorem dX10_putAside_17 : decode cX10_putAside 17 = .ok (.iload_n 1, 1) := by decide +kernel
theorem dX10_putAside_18 : decode cX10_putAside 18 = .ok (.laload, 1) := by decide +kernel
theorem dX10_putAside_19 : decode cX10_putAside 19 = .ok (.lastore, 1) := by decide +kernel
theorem dX10_putAside_20 : decode cX10_putAside 20 = .ok (.iinc 1 1, 3) := by decide +kernel
theorem dX10_putAside_23 : decode cX10_putAside 23 = .ok (.goto (-21), 3) := by decide +kernel
theorem dX10_putAside_26 : decode cX10_putAside 26 = .ok (.return_, 1) := by decide +kernel
theorem dX10_putBack_0 : decode cX10_putBack 0 = .ok (.iconst 0, 1) := by decide +kernel
theorem dX10_putBack_1 : decode cX10_putBack 1 = .ok (.istore_n 1, 1) := by decide +kernel
theorem dX10_putBack_2 : decode cX10_putBack 2 = .ok (.iload_n 1, 1) := by decide +kernel
theorem dX10_putBack_3 : decode cX10_putBack 3 = .ok (.bipush 93, 2) := by decide +kernel
theorem dX10_putBack_5 : decode cX10_putBack 5 = .ok (.if_icmp .ge 21, 3) := by decide +kernel
theorem dX10_putBack_8 : decode cX10_putBack 8 = .ok (.aload_n 0, 1) := by decide +kernel
theorem dX10_putBack_9 : decode cX10_putBack 9 = .ok (.getfield 7, 3) := by decide +kernel
theorem dX10_putBack_12 : decode cX10_putBack 12 = .ok (.iload_n 1, 1) := by decide +kernel
theorem dX10_putBack_13 : decode cX10_putBack 13 = .ok (.aload_n 0, 1) := by decide +kernel
theorem dX10_putBack_14 : decode cX10_putBack 14 = .ok (.getfield 13, 3) := by decide +kernel
theorem dX10_putBack_17 : decode cX10_putBack 17 = .ok (.iload_n 1, 1) := by decide +kernel
theorem dX10_putBack_18 : decode cX10_putBack 18 = .ok (.laload, 1) := by decide +kernel
theorem dX10_putBack_19 : decode cX10_putBack 19 = .ok (.lastore, 1) := by decide +kernel
theorem dX10_putBack_20 : decode cX10_putBack 20 = .ok (.iinc 1 1, 3) := by decide +kernel
theorem dX10_putBack_23 : decode cX10_putBack 23 = .ok (.goto (-21), 3) := by decide +kernel
theorem dX10_putBack_26 : decode cX10_putBack 26 = .ok (.return_, 1) := by decide +kernel
theorem dX10_concentration_0 : decode cX10_concentration 0 = .ok (.aload_n 0, 1) := by decide +kernel
theorem dX10_concentration_1 : decode cX10_concentration 1 = .ok (.getfield 7, 3) := by decide +kernel
theorem dX10_concentration_4 : decode cX10_concentration 4 = .ok (.bipush 79, 2) := by decide +kernel
theorem dX10_concentration_6 : decode cX10_concentration 6 = .ok (.laload, 1) := by decide +kernel
theorem dX10_concentration_7 : decode cX10_concentration 7 = .ok (.ldc2_w 56, 3) := by decide +kernel
theorem dX10_concentration_10 : decode cX10_concentration 10 = .ok (.aload_n 0, 1) := by decide +kernel
theorem dX10_concentration_11 : decode cX10_concentration 11 = .ok (.getfield 7, 3) := by decide +kernel
theorem dX10_concentration_14 : decode cX10_concentration 14 = .ok (.bipush 65, 2) := by decide +kernel
theorem dX10_concentration_16 : decode cX10_concentration 16 = .ok (.laload, 1) := by decide +kernel
theorem dX10_concentration_17 : decode cX10_concentration 17 = .ok (.lmul, 1) := by decide +kernel
theorem dX10_concentration_18 : decode cX10_concentration 18 = .ok (.ldiv, 1) := by decide +kernel
theorem dX10_concentration_19 : decode cX10_concentration 19 = .ok (.l2i, 1) := by decide +kernel
theorem dX10_concentration_20 : decode cX10_concentration 20 = .ok (.ireturn, 1) := by decide +kernel
set_option maxRecDepth 20000 in
theorem ggX10_load_X10_in : GoodIn wsX10_load wsX10_in := goodIn_r _ [8] (by decide +kernel) (by decide +kernel)
set_option maxRecDepth 20000 in
theorem gX10_load_X10_in : GoodIn wsX10_load (va_wsS RX10 52 yX10_in wsX10_in) := goodIn_app (goodIn_of _ (by decide +kernel)) ggX10_load_X10_in
set_option maxRecDepth 20000 in
theorem ggX10_load_X10_boxes : GoodIn wsX10_load wsX10_boxes := goodIn_r _ [12, 4, 21, 22, 23, 24, 25, 26, 27, 28, 29, 30] (by decide +kernel) (by decide +kernel)
set_option maxRecDepth 20000 in
theorem gX10_load_X10_boxes : GoodIn wsX10_load (wsV RX10 48 RX10 yX10_boxes wsX10_boxes) := goodIn_app (goodIn_of _ (by decide +kernel)) ggX10_load_X10_boxes
set_option maxRecDepth 20000 in
theorem ggX10_load_X10_isDoorOpen : GoodIn wsX10_load wsX10_isDoorOpen := goodIn_r _ [16, 4, 21, 22, 23, 24, 25, 26, 27, 28, 29, 30] (by decide +kernel) (by decide +kernel)
set_option maxRecDepth 20000 in
theorem gX10_load_X10_isDoorOpen : GoodIn wsX10_load (wsV RX10 62 RX10 yX10_isDoorOpen wsX10_isDoorOpen) := goodIn_app (goodIn_of _ (by decide +kernel)) ggX10_load_X10_isDoorOpen
set_option maxRecDepth 20000 in
theorem ggX10_load_X10_lay : GoodIn wsX10_load wsX10_lay := goodIn_r _ [20, 4, 21, 22, 23, 24, 25, 26, 27, 28, 29, 30] (by decide +kernel) (by decide +kernel)
set_option maxRecDepth 20000 in
theorem gX10_load_X10_lay : GoodIn wsX10_load (wsV RX10 66 RX10 yX10_lay wsX10_lay) := goodIn_app (goodIn_of _ (by decide +kernel)) ggX10_load_X10_lay
theorem dX10_load_0 : decode cX10_load 0 = .ok (.iload_n 1, 1) := by decide +kernel
theorem dX10_load_1 : decode cX10_load 1 = .ok (.i2l, 1) := by decide +kernel
theorem dX10_load_2 : decode cX10_load 2 = .ok (.lconst 1, 1) := by decide +kernel
theorem dX10_load_3 : decode cX10_load 3 = .ok (.ldc2_w 34, 3) := by decide +kernel
theorem dX10_load_6 : decode cX10_load 6 = .ok (.invokestatic 52, 3) := by decide +kernel
theorem dX10_load_9 : decode cX10_load 9 = .ok (.ifCond .eq 27, 3) := by decide +kernel
theorem dX10_load_12 : decode cX10_load 12 = .ok (.iload_n 2, 1) := by decide +kernel
theorem dX10_load_13 : decode cX10_load 13 = .ok (.i2l, 1) := by decide +kernel
theorem dX10_load_14 : decode cX10_load 14 = .ok (.lconst 0, 1) := by decide +kernel
theorem dX10_load_15 : decode cX10_load 15 = .ok (.ldc2_w 58, 3) := by decide +kernel
theorem dX10_load_18 : decode cX10_load 18 = .ok (.invokestatic 52, 3) := by decide +kernel
theorem dX10_load_21 : decode cX10_load 21 = .ok (.ifCond .eq 15, 3) := by decide +kernel
theorem dX10_load_24 : decode cX10_load 24 = .ok (.iload_n 3, 1) := by decide +kernel
theorem dX10_load_25 : decode cX10_load 25 = .ok (.i2l, 1) := by decide +kernel
theorem dX10_load_26 : decode cX10_load 26 = .ok (.lconst 0, 1) := by decide +kernel
theorem dX10_load_27 : decode cX10_load 27 = .ok (.ldc2_w 60, 3) := by decide +kernel
theorem dX10_load_30 : decode cX10_load 30 = .ok (.invokestatic 52, 3) := by decide +kernel
theorem dX10_load_33 : decode cX10_load 33 = .ok (.ifCond .ne 6, 3) := by decide +kernel
theorem dX10_load_36 : decode cX10_load 36 = .ok (.bipush (-2), 2) := by decide +kernel
theorem dX10_load_38 : decode cX10_load 38 = .ok (.ireturn, 1) := by decide +kernel
theorem dX10_load_39 : decode cX10_load 39 = .ok (.aload_n 0, 1) := by decide +kernel
theorem dX10_load_40 : decode cX10_load 40 = .ok (.invokevirtual 48, 3) := by decide +kernel
theorem dX10_load_43 : decode cX10_load 43 = .ok (.bipush 10, 2) := by decide +kernel
theorem dX10_load_45 : decode cX10_load 45 = .ok (.if_icmp .ne 6, 3) := by decide +kernel
theorem dX10_load_48 : decode cX10_load 48 = .ok (.bipush (-4), 2) := by decide +kernel
theorem dX10_load_50 : decode cX10_load 50 = .ok (.ireturn, 1) := by decide +kernel
theorem dX10_load_51 : decode cX10_load 51 = .ok (.aload_n 0, 1) := by decide +kernel
theorem dX10_load_52 : decode cX10_load 52 = .ok (.invokevirtual 62, 3) := by decide +kernel
theorem dX10_load_55 : decode cX10_load 55 = .ok (.ifCond .ne 6, 3) := by decide +kernel
theorem dX10_load_58 : decode cX10_load 58 = .ok (.bipush (-5), 2) := by decide +kernel
theorem dX10_load_60 : decode cX10_load 60 = .ok (.ireturn, 1) := by decide +kernel
theorem dX10_load_61 : decode cX10_load 61 = .ok (.aload_n 0, 1) := by decide +kernel
theorem dX10_load_62 : decode cX10_load 62 = .ok (.invokevirtual 48, 3) := by decide +kernel
theorem dX10_load_65 : decode cX10_load 65 = .ok (.istore 4, 2) := by decide +kernel
theorem dX10_load_67 : decode cX10_load 67 = .ok (.aload_n 0, 1) := by decide +kernel
theorem dX10_load_68 : decode cX10_load 68 = .ok (.getfield 7, 3) := by decide +kernel
theorem dX10_load_71 : decode cX10_load 71 = .ok (.bipush 75, 2) := by decide +kernel
theorem dX10_load_73 : decode cX10_load 73 = .ok (.dup2, 1) := by decide +kernel
theorem dX10_load_74 : decode cX10_load 74 = .ok (.laload, 1) := by decide +kernel
theorem dX10_load_75 : decode cX10_load 75 = .ok (.lconst 1, 1) := by decide +kernel
theorem dX10_load_76 : decode cX10_load 76 = .ok (.ladd, 1) := by decide +kernel
theorem dX10_load_77 : decode cX10_load 77 = .ok (.lastore, 1) := by decide +kernel
theorem dX10_load_78 : decode cX10_load 78 = .ok (.aload_n 0, 1) := by decide +kernel
theorem dX10_load_79 : decode cX10_load 79 = .ok (.iload 4, 2) := by decide +kernel
theorem dX10_load_81 : decode cX10_load 81 = .ok (.iconst 0, 1) := by decide +kernel
theorem dX10_load_82 : decode cX10_load 82 = .ok (.iload_n 1, 1) := by decide +kernel
theorem dX10_load_83 : decode cX10_load 83 = .ok (.i2l, 1) := by decide +kernel
theorem dX10_load_84 : decode cX10_load 84 = .ok (.invokevirtual 66, 3) := by decide +kernel
theorem dX10_load_87 : decode cX10_load 87 = .ok (.aload_n 0, 1) := by decide +kernel
theorem dX10_load_88 : decode cX10_load 88 = .ok (.iload 4, 2) := by decide +kernel
theorem dX10_load_90 : decode cX10_load 90 = .ok (.iconst 1, 1) := by decide +kernel
theorem dX10_load_91 : decode cX10_load 91 = .ok (.iload_n 2, 1) := by decide +kernel
theorem dX10_load_92 : decode cX10_load 92 = .ok (.i2l, 1) := by decide +kernel
theorem dX10_load_93 : decode cX10_load 93 = .ok (.invokevirtual 66, 3) := by decide +kernel
theorem dX10_load_96 : decode cX10_load 96 = .ok (.aload_n 0, 1) := by decide +kernel
theorem dX10_load_97 : decode cX10_load 97 = .ok (.iload 4, 2) := by decide +kernel
theorem dX10_load_99 : decode cX10_load 99 = .ok (.iconst 2, 1) := by decide +kernel
theorem dX10_load_100 : decode cX10_load 100 = .ok (.iload_n 3, 1) := by decide +kernel
theorem dX10_load_101 : decode cX10_load 101 = .ok (.i2l, 1) := by decide +kernel
theorem dX10_load_102 : decode cX10_load 102 = .ok (.invokevirtual 66, 3) := by decide +kernel
theorem dX10_load_105 : decode cX10_load 105 = .ok (.aload_n 0, 1) := by decide +kernel
theorem dX10_load_106 : decode cX10_load 106 = .ok (.iload 4, 2) := by decide +kernel
theorem dX10_load_108 : decode cX10_load 108 = .ok (.iconst 3, 1) := by decide +kernel
theorem dX10_load_109 : decode cX10_load 109 = .ok (.iload_n 3, 1) := by decide +kernel
theorem dX10_load_110 : decode cX10_load 110 = .ok (.i2l, 1) := by decide +kernel
theorem dX10_load_111 : decode cX10_load 111 = .ok (.invokevirtual 66, 3) := by decide +kernel
theorem dX10_load_114 : decode cX10_load 114 = .ok (.aload_n 0, 1) := by decide +kernel
theorem dX10_load_115 : decode cX10_load 115 = .ok (.getfield 7, 3) := by decide +kernel
theorem dX10_load_118 : decode cX10_load 118 = .ok (.bipush 88, 2) := by decide +kernel
theorem dX10_load_120 : decode cX10_load 120 = .ok (.dup2, 1) := by decide +kernel
theorem dX10_load_121 : decode cX10_load 121 = .ok (.laload, 1) := by decide +kernel
theorem dX10_load_122 : decode cX10_load 122 = .ok (.iload_n 3, 1) := by decide +kernel
theorem dX10_load_123 : decode cX10_load 123 = .ok (.i2l, 1) := by decide +kernel
theorem dX10_load_124 : decode cX10_load 124 = .ok (.ladd, 1) := by decide +kernel
theorem dX10_load_125 : decode cX10_load 125 = .ok (.lastore, 1) := by decide +kernel
theorem dX10_load_126 : decode cX10_load 126 = .ok (.iload 4, 2) := by decide +kernel
theorem dX10_load_128 : decode cX10_load 128 = .ok (.ireturn, 1) := by decide +kernel
set_option maxRecDepth 20000 in
theorem ggX10_unload_X10_isBox : GoodIn wsX10_unload wsX10_isBox := goodIn_r _ [6, 7, 8, 9, 5, 10, 1, 11, 12, 13, 22, 23, 24, 25, 26, 27, 28, 29, 30, 31] (by decide +kernel) (by decide +kernel)
set_option maxRecDepth 20000 in
theorem gX10_unload_X10_isBox : GoodIn wsX10_unload (wsV RX10 70 RX10 yX10_isBox wsX10_isBox) := goodIn_app (goodIn_of _ (by decide +kernel)) ggX10_unload_X10_isBox
set_option maxRecDepth 20000 in
theorem ggX10_unload_X10_isDoorOpen : GoodIn wsX10_unload wsX10_isDoorOpen := goodIn_r _ [17, 1, 22, 23, 24, 25, 26, 27, 28, 29, 30, 31] (by decide +kernel) (by decide +kernel)
set_option maxRecDepth 20000 in
theorem gX10_unload_X10_isDoorOpen : GoodIn wsX10_unload (wsV RX10 62 RX10 yX10_isDoorOpen wsX10_isDoorOpen) := goodIn_app (goodIn_of _ (by decide +kernel)) ggX10_unload_X10_isDoorOpen
set_option maxRecDepth 20000 in
theorem ggX10_unload_X10_of : GoodIn wsX10_unload wsX10_of := goodIn_r _ [21, 1, 22, 23, 24, 25, 26, 27, 28, 29, 30, 31] (by decide +kernel) (by decide +kernel)
set_option maxRecDepth 20000 in
theorem gX10_unload_X10_of : GoodIn wsX10_unload (wsV RX10 74 RX10 yX10_of wsX10_of) := goodIn_app (goodIn_of _ (by decide +kernel)) ggX10_unload_X10_of
set_option maxRecDepth 20000 in
theorem ggX10_unload_X10_boxes : GoodIn wsX10_unload wsX10_boxes := goodIn_r _ [10, 1, 22, 23, 24, 25, 26, 27, 28, 29, 30, 31] (by decide +kernel) (by decide +kernel)
set_option maxRecDepth 20000 in
theorem gX10_unload_X10_boxes : GoodIn wsX10_unload (wsV RX10 48 RX10 yX10_boxes wsX10_boxes) := goodIn_app (goodIn_of _ (by decide +kernel)) ggX10_unload_X10_boxes
theorem dX10_unload_0 : decode cX10_unload 0 = .ok (.aload_n 0, 1) := by decide +kernel
theorem dX10_unload_1 : decode cX10_unload 1 = .ok (.iload_n 1, 1) := by decide +kernel
theorem dX10_unload_2 : decode cX10_unload 2 = .ok (.invokevirtual 70, 3) := by decide +kernel
theorem dX10_unload_5 : decode cX10_unload 5 = .ok (.ifCond .ne 5, 3) := by decide +kernel
theorem dX10_unload_8 : decode cX10_unload 8 = .ok (.iconst (-1), 1) := by decide +kernel
theorem dX10_unload_9 : decode cX10_unload 9 = .ok (.ireturn, 1) := by decide +kernel
theorem dX10_unload_10 : decode cX10_unload 10 = .ok (.aload_n 0, 1) := by decide +kernel
theorem dX10_unload_11 : decode cX10_unload 11 = .ok (.invokevirtual 62, 3) := by decide +kernel
theorem dX10_unload_14 : decode cX10_unload 14 = .ok (.ifCond .ne 6, 3) := by decide +kernel
theorem dX10_unload_17 : decode cX10_unload 17 = .ok (.bipush (-5), 2) := by decide +kernel
theorem dX10_unload_19 : decode cX10_unload 19 = .ok (.ireturn, 1) := by decide +kernel
theorem dX10_unload_20 : decode cX10_unload 20 = .ok (.aload_n 0, 1) := by decide +kernel
theorem dX10_unload_21 : decode cX10_unload 21 = .ok (.iload_n 1, 1) := by decide +kernel
theorem dX10_unload_22 : decode cX10_unload 22 = .ok (.iconst 2, 1) := by decide +kernel
theorem dX10_unload_23 : decode cX10_unload 23 = .ok (.invokevirtual 74, 3) := by decide +kernel
theorem dX10_unload_26 : decode cX10_unload 26 = .ok (.l2i, 1) := by decide +kernel
theorem dX10_unload_27 : decode cX10_unload 27 = .ok (.istore_n 2, 1) := by decide +kernel
theorem dX10_unload_28 : decode cX10_unload 28 = .ok (.aload_n 0, 1) := by decide +kernel
theorem dX10_unload_29 : decode cX10_unload 29 = .ok (.getfield 7, 3) := by decide +kernel
theorem dX10_unload_32 : decode cX10_unload 32 = .ok (.bipush 89, 2) := by decide +kernel
theorem dX10_unload_34 : decode cX10_unload 34 = .ok (.dup2, 1) := by decide +kernel
theorem dX10_unload_35 : decode cX10_unload 35 = .ok (.laload, 1) := by decide +kernel
theorem dX10_unload_36 : decode cX10_unload 36 = .ok (.iload_n 2, 1) := by decide +kernel
theorem dX10_unload_37 : decode cX10_unload 37 = .ok (.i2l, 1) := by decide +kernel
theorem dX10_unload_38 : decode cX10_unload 38 = .ok (.ladd, 1) := by decide +kernel
theorem dX10_unload_39 : decode cX10_unload 39 = .ok (.lastore, 1) := by decide +kernel
theorem dX10_unload_40 : decode cX10_unload 40 = .ok (.aload_n 0, 1) := by decide +kernel
theorem dX10_unload_41 : decode cX10_unload 41 = .ok (.getfield 7, 3) := by decide +kernel
theorem dX10_unload_44 : decode cX10_unload 44 = .ok (.bipush 75, 2) := by decide +kernel
theorem dX10_unload_46 : decode cX10_unload 46 = .ok (.dup2, 1) := by decide +kernel
theorem dX10_unload_47 : decode cX10_unload 47 = .ok (.laload, 1) := by decide +kernel
theorem dX10_unload_48 : decode cX10_unload 48 = .ok (.lconst 1, 1) := by decide +kernel
theorem dX10_unload_49 : decode cX10_unload 49 = .ok (.lsub, 1) := by decide +kernel
theorem dX10_unload_50 : decode cX10_unload 50 = .ok (.lastore, 1) := by decide +kernel
theorem dX10_unload_51 : decode cX10_unload 51 = .ok (.iconst 4, 1) := by decide +kernel
theorem dX10_unload_52 : decode cX10_unload 52 = .ok (.iload_n 1, 1) := by decide +kernel
theorem dX10_unload_53 : decode cX10_unload 53 = .ok (.imul, 1) := by decide +kernel
theorem dX10_unload_54 : decode cX10_unload 54 = .ok (.istore_n 3, 1) := by decide +kernel
theorem dX10_unload_55 : decode cX10_unload 55 = .ok (.iload_n 3, 1) := by decide +kernel
theorem dX10_unload_56 : decode cX10_unload 56 = .ok (.iconst 4, 1) := by decide +kernel
theorem dX10_unload_57 : decode cX10_unload 57 = .ok (.aload_n 0, 1) := by decide +kernel
theorem dX10_unload_58 : decode cX10_unload 58 = .ok (.invokevirtual 48, 3) := by decide +kernel
theorem dX10_unload_61 : decode cX10_unload 61 = .ok (.imul, 1) := by decide +kernel
theorem dX10_unload_62 : decode cX10_unload 62 = .ok (.if_icmp .ge 27, 3) := by decide +kernel
theorem dX10_unload_65 : decode cX10_unload 65 = .ok (.aload_n 0, 1) := by decide +kernel
theorem dX10_unload_66 : decode cX10_unload 66 = .ok (.getfield 7, 3) := by decide +kernel
theorem dX10_unload_69 : decode cX10_unload 69 = .ok (.iconst 0, 1) := by decide +kernel
theorem dX10_unload_70 : decode cX10_unload 70 = .ok (.iload_n 3, 1) := by decide +kernel
theorem dX10_unload_71 : decode cX10_unload 71 = .ok (.iadd, 1) := by decide +kernel
theorem dX10_unload_72 : decode cX10_unload 72 = .ok (.aload_n 0, 1) := by decide +kernel
theorem dX10_unload_73 : decode cX10_unload 73 = .ok (.getfield 7, 3) := by decide +kernel
theorem dX10_unload_76 : decode cX10_unload 76 = .ok (.iconst 0, 1) := by decide +kernel
theorem dX10_unload_77 : decode cX10_unload 77 = .ok (.iload_n 3, 1) := by decide +kernel
theorem dX10_unload_78 : decode cX10_unload 78 = .ok (.iadd, 1) := by decide +kernel
theorem dX10_unload_79 : decode cX10_unload 79 = .ok (.iconst 4, 1) := by decide +kernel
theorem dX10_unload_80 : decode cX10_unload 80 = .ok (.iadd, 1) := by decide +kernel
theorem dX10_unload_81 : decode cX10_unload 81 = .ok (.laload, 1) := by decide +kernel
theorem dX10_unload_82 : decode cX10_unload 82 = .ok (.lastore, 1) := by decide +kernel
theorem dX10_unload_83 : decode cX10_unload 83 = .ok (.iinc 3 1, 3) := by decide +kernel
theorem dX10_unload_86 : decode cX10_unload 86 = .ok (.goto (-31), 3) := by decide +kernel
theorem dX10_unload_89 : decode cX10_unload 89 = .ok (.iload_n 2, 1) := by decide +kernel
theorem dX10_unload_90 : decode cX10_unload 90 = .ok (.ireturn, 1) := by decide +kernel
set_option maxRecDepth 20000 in
theorem ggX10_swap_X10_of : GoodIn wsX10_swap wsX10_of := goodIn_r _ [5, 6, 11, 12, 13, 14, 15, 16, 17, 18, 19, 20] (by decide +kernel) (by decide +kernel)
set_option maxRecDepth 20000 in
theorem gX10_swap_X10_of : GoodIn wsX10_swap (wsV RX10 74 RX10 yX10_of wsX10_of) := goodIn_app (goodIn_of _ (by decide +kernel)) ggX10_swap_X10_of
set_option maxRecDepth 20000 in
theorem ggX10_swap_X10_lay : GoodIn wsX10_swap wsX10_lay := goodIn_r _ [10, 6, 11, 12, 13, 14, 15, 16, 17, 18, 19, 20] (by decide +kernel) (by decide +kernel)
set_option maxRecDepth 20000 in
theorem gX10_swap_X10_lay : GoodIn wsX10_swap (wsV RX10 66 RX10 yX10_lay wsX10_lay) := goodIn_app (goodIn_of _ (by decide +kernel)) ggX10_swap_X10_lay
theorem dX10_swap_0 : decode cX10_swap 0 = .ok (.iconst 0, 1) := by decide +kernel
theorem dX10_swap_1 : decode cX10_swap 1 = .ok (.istore_n 3, 1) := by decide +kernel
theorem dX10_swap_2 : decode cX10_swap 2 = .ok (.iload_n 3, 1) := by decide +kernel
theorem dX10_swap_3 : decode cX10_swap 3 = .ok (.iconst 4, 1) := by decide +kernel
theorem dX10_swap_4 : decode cX10_swap 4 = .ok (.if_icmp .ge 37, 3) := by decide +kernel
theorem dX10_swap_7 : decode cX10_swap 7 = .ok (.aload_n 0, 1) := by decide +kernel
theorem dX10_swap_8 : decode cX10_swap 8 = .ok (.iload_n 1, 1) := by decide +kernel
theorem dX10_swap_9 : decode cX10_swap 9 = .ok (.iload_n 3, 1) := by decide +kernel
theorem dX10_swap_10 : decode cX10_swap 10 = .ok (.invokevirtual 74, 3) := by decide +kernel
theorem dX10_swap_13 : decode cX10_swap 13 = .ok (.lstore 4, 2) := by decide +kernel
theorem dX10_swap_15 : decode cX10_swap 15 = .ok (.aload_n 0, 1) := by decide +kernel
theorem dX10_swap_16 : decode cX10_swap 16 = .ok (.iload_n 1, 1) := by decide +kernel
theorem dX10_swap_17 : decode cX10_swap 17 = .ok (.iload_n 3, 1) := by decide +kernel
theorem dX10_swap_18 : decode cX10_swap 18 = .ok (.aload_n 0, 1) := by decide +kernel
theorem dX10_swap_19 : decode cX10_swap 19 = .ok (.iload_n 2, 1) := by decide +kernel
theorem dX10_swap_20 : decode cX10_swap 20 = .ok (.iload_n 3, 1) := by decide +kernel
theorem dX10_swap_21 : decode cX10_swap 21 = .ok (.invokevirtual 74, 3) := by decide +kernel
theorem dX10_swap_24 : decode cX10_swap 24 = .ok (.invokevirtual 66, 3) := by decide +kernel
theorem dX10_swap_27 : decode cX10_swap 27 = .ok (.aload_n 0, 1) := by decide +kernel
theorem dX10_swap_28 : decode cX10_swap 28 = .ok (.iload_n 2, 1) := by decide +kernel
theorem dX10_swap_29 : decode cX10_swap 29 = .ok (.iload_n 3, 1) := by decide +kernel
theorem dX10_swap_30 : decode cX10_swap 30 = .ok (.lload 4, 2) := by decide +kernel
theorem dX10_swap_32 : decode cX10_swap 32 = .ok (.invokevirtual 66, 3) := by decide +kernel
theorem dX10_swap_35 : decode cX10_swap 35 = .ok (.iinc 3 1, 3) := by decide +kernel
theorem dX10_swap_38 : decode cX10_swap 38 = .ok (.goto (-36), 3) := by decide +kernel
theorem dX10_swap_41 : decode cX10_swap 41 = .ok (.return_, 1) := by decide +kernel
set_option maxRecDepth 20000 in
theorem ggX10_move_X10_swap : GoodIn wsX10_move wsX10_swap := goodIn_r _ [5, 6, 7, 8, 4, 9, 10, 11, 12, 13, 14, 15, 16, 17, 18, 19, 20, 21, 22, 23, 24] (by decide +kernel) (by decide +kernel)
set_option maxRecDepth 20000 in
theorem gX10_move_X10_swap : GoodIn wsX10_move (wsV RX10 78 RX10 yX10_swap wsX10_swap) := goodIn_app (goodIn_of _ (by decide +kernel)) ggX10_move_X10_swap
theorem dX10_move_0 : decode cX10_move 0 = .ok (.iload_n 1, 1) := by decide +kernel
theorem dX10_move_1 : decode cX10_move 1 = .ok (.istore_n 3, 1) := by decide +kernel
theorem dX10_move_2 : decode cX10_move 2 = .ok (.iload_n 3, 1) := by decide +kernel
theorem dX10_move_3 : decode cX10_move 3 = .ok (.iload_n 2, 1) := by decide +kernel
theorem dX10_move_4 : decode cX10_move 4 = .ok (.if_icmp .ge 17, 3) := by decide +kernel
theorem dX10_move_7 : decode cX10_move 7 = .ok (.aload_n 0, 1) := by decide +kernel
theorem dX10_move_8 : decode cX10_move 8 = .ok (.iload_n 3, 1) := by decide +kernel
theorem dX10_move_9 : decode cX10_move 9 = .ok (.iload_n 3, 1) := by decide +kernel
theorem dX10_move_10 : decode cX10_move 10 = .ok (.iconst 1, 1) := by decide +kernel
theorem dX10_move_11 : decode cX10_move 11 = .ok (.iadd, 1) := by decide +kernel
theorem dX10_move_12 : decode cX10_move 12 = .ok (.invokevirtual 78, 3) := by decide +kernel
theorem dX10_move_15 : decode cX10_move 15 = .ok (.iinc 3 1, 3) := by decide +kernel
theorem dX10_move_18 : decode cX10_move 18 = .ok (.goto (-16), 3) := by decide +kernel
theorem dX10_move_21 : decode cX10_move 21 = .ok (.iload_n 1, 1) := by decide +kernel
theorem dX10_move_22 : decode cX10_move 22 = .ok (.istore_n 3, 1) := by decide +kernel
theorem dX10_move_23 : decode cX10_move 23 = .ok (.iload_n 3, 1) := by decide +kernel
theorem dX10_move_24 : decode cX10_move 24 = .ok (.iload_n 2, 1) := by decide +kernel
theorem dX10_move_25 : decode cX10_move 25 = .ok (.if_icmp .le 17, 3) := by decide +kernel
theorem dX10_move_28 : decode cX10_move 28 = .ok (.aload_n 0, 1) := by decide +kernel
theorem dX10_move_29 : decode cX10_move 29 = .ok (.iload_n 3, 1) := by decide +kernel
theorem dX10_move_30 : decode cX10_move 30 = .ok (.iload_n 3, 1) := by decide +kernel
theorem dX10_move_31 : decode cX10_move 31 = .ok (.iconst 1, 1) := by decide +kernel
theorem dX10_move_32 : decode cX10_move 32 = .ok (.isub, 1) := by decide +kernel
theorem dX10_move_33 : decode cX10_move 33 = .ok (.invokevirtual 78, 3) := by decide +kernel
theorem dX10_move_36 : decode cX10_move 36 = .ok (.iinc 3 (-1), 3) := by decide +kernel
theorem dX10_move_39 : decode cX10_move 39 = .ok (.goto (-16), 3) := by decide +kernel
theorem dX10_move_42 : decode cX10_move 42 = .ok (.return_, 1) := by decide +kernel
set_option maxRecDepth 20000 in
theorem ggX10_shift_X10_isBox : GoodIn wsX10_shift wsX10_isBox := goodIn_r _ [5, 6, 7, 8, 4, 9, 10, 11, 12, 13, 30, 31, 32, 33, 34, 35, 36, 37, 38, 39] (by decide +kernel) (by decide +kernel)
set_option maxRecDepth 20000 in
theorem gX10_shift_X10_isBox : GoodIn wsX10_shift (wsV RX10 70 RX10 yX10_isBox wsX10_isBox) := goodIn_app (goodIn_of _ (by decide +kernel)) ggX10_shift_X10_isBox
set_option maxRecDepth 20000 in
theorem ggX10_shift_X10_of : GoodIn wsX10_shift wsX10_of := goodIn_r _ [17, 10, 30, 31, 32, 33, 34, 35, 36, 37, 38, 39] (by decide +kernel) (by decide +kernel)
set_option maxRecDepth 20000 in
theorem gX10_shift_X10_of : GoodIn wsX10_shift (wsV RX10 74 RX10 yX10_of wsX10_of) := goodIn_app (goodIn_of _ (by decide +kernel)) ggX10_shift_X10_of
set_option maxRecDepth 20000 in
theorem ggX10_shift_X10_move : GoodIn wsX10_shift wsX10_move := goodIn_r _ [21, 22, 23, 24, 4, 25, 14, 15, 16, 17, 10, 26, 27, 28, 29, 30, 31, 32, 33, 34, 35, 36, 37, 38, 39] (by decide +kernel) (by decide +kernel)
set_option maxRecDepth 20000 in
theorem gX10_shift_X10_move : GoodIn wsX10_shift (wsV RX10 82 RX10 yX10_move wsX10_move) := goodIn_app (goodIn_of _ (by decide +kernel)) ggX10_shift_X10_move
theorem dX10_shift_0 : decode cX10_shift 0 = .ok (.aload_n 0, 1) := by decide +kernel
theorem dX10_shift_1 : decode cX10_shift 1 = .ok (.iload_n 1, 1) := by decide +kernel
theorem dX10_shift_2 : decode cX10_shift 2 = .ok (.invokevirtual 70, 3) := by decide +kernel
theorem dX10_shift_5 : decode cX10_shift 5 = .ok (.ifCond .eq 11, 3) := by decide +kernel
theorem dX10_shift_8 : decode cX10_shift 8 = .ok (.aload_n 0, 1) := by decide +kernel
theorem dX10_shift_9 : decode cX10_shift 9 = .ok (.iload_n 2, 1) := by decide +kernel
theorem dX10_shift_10 : decode cX10_shift 10 = .ok (.invokevirtual 70, 3) := by decide +kernel
theorem dX10_shift_13 : decode cX10_shift 13 = .ok (.ifCond .ne 5, 3) := by decide +kernel
theorem dX10_shift_16 : decode cX10_shift 16 = .ok (.iconst (-1), 1) := by decide +kernel
theorem dX10_shift_17 : decode cX10_shift 17 = .ok (.ireturn, 1) := by decide +kernel
theorem dX10_shift_18 : decode cX10_shift 18 = .ok (.aload_n 0, 1) := by decide +kernel
theorem dX10_shift_19 : decode cX10_shift 19 = .ok (.iload_n 1, 1) := by decide +kernel
theorem dX10_shift_20 : decode cX10_shift 20 = .ok (.iconst 2, 1) := by decide +kernel
theorem dX10_shift_21 : decode cX10_shift 21 = .ok (.invokevirtual 74, 3) := by decide +kernel
theorem dX10_shift_24 : decode cX10_shift 24 = .ok (.l2i, 1) := by decide +kernel
theorem dX10_shift_25 : decode cX10_shift 25 = .ok (.istore_n 3, 1) := by decide +kernel
theorem dX10_shift_26 : decode cX10_shift 26 = .ok (.aload_n 0, 1) := by decide +kernel
theorem dX10_shift_27 : decode cX10_shift 27 = .ok (.iload_n 1, 1) := by decide +kernel
theorem dX10_shift_28 : decode cX10_shift 28 = .ok (.iload_n 2, 1) := by decide +kernel
theorem dX10_shift_29 : decode cX10_shift 29 = .ok (.invokevirtual 82, 3) := by decide +kernel
theorem dX10_shift_32 : decode cX10_shift 32 = .ok (.iload_n 3, 1) := by decide +kernel
theorem dX10_shift_33 : decode cX10_shift 33 = .ok (.ireturn, 1) := by decide +kernel
set_option maxRecDepth 20000 in
theorem ggX10_takes_X10_in : GoodIn wsX10_takes wsX10_in := goodIn_r _ [11] (by decide +kernel) (by decide +kernel)
set_option maxRecDepth 20000 in
theorem gX10_takes_X10_in : GoodIn wsX10_takes (va_wsS RX10 52 yX10_in wsX10_in) := goodIn_app (goodIn_of _ (by decide +kernel)) ggX10_takes_X10_in
theorem dX10_takes_0 : decode cX10_takes 0 = .ok (.iload_n 0, 1) := by decide +kernel
theorem dX10_takes_1 : decode cX10_takes 1 = .ok (.tableswitch 135 0 9 #[55, 65, 75, 85, 95, 105, 115, 85, 105, 125], 55) := by decide +kernel
theorem dX10_takes_56 : decode cX10_takes 56 = .ok (.iload_n 1, 1) := by decide +kernel
theorem dX10_takes_57 : decode cX10_takes 57 = .ok (.i2l, 1) := by decide +kernel
theorem dX10_takes_58 : decode cX10_takes 58 = .ok (.lconst 0, 1) := by decide +kernel
theorem dX10_takes_59 : decode cX10_takes 59 = .ok (.ldc2_w 44, 3) := by decide +kernel
theorem dX10_takes_62 : decode cX10_takes 62 = .ok (.invokestatic 52, 3) := by decide +kernel
theorem dX10_takes_65 : decode cX10_takes 65 = .ok (.ireturn, 1) := by decide +kernel
theorem dX10_takes_66 : decode cX10_takes 66 = .ok (.iload_n 1, 1) := by decide +kernel
theorem dX10_takes_67 : decode cX10_takes 67 = .ok (.i2l, 1) := by decide +kernel
theorem dX10_takes_68 : decode cX10_takes 68 = .ok (.lconst 1, 1) := by decide +kernel
theorem dX10_takes_69 : decode cX10_takes 69 = .ok (.ldc2_w 34, 3) := by decide +kernel
theorem dX10_takes_72 : decode cX10_takes 72 = .ok (.invokestatic 52, 3) := by decide +kernel
theorem dX10_takes_75 : decode cX10_takes 75 = .ok (.ireturn, 1) := by decide +kernel
theorem dX10_takes_76 : decode cX10_takes 76 = .ok (.iload_n 1, 1) := by decide +kernel
theorem dX10_takes_77 : decode cX10_takes 77 = .ok (.i2l, 1) := by decide +kernel
theorem dX10_takes_78 : decode cX10_takes 78 = .ok (.lconst 0, 1) := by decide +kernel
theorem dX10_takes_79 : decode cX10_takes 79 = .ok (.ldc2_w 85, 3) := by decide +kernel
theorem dX10_takes_82 : decode cX10_takes 82 = .ok (.invokestatic 52, 3) := by decide +kernel
theorem dX10_takes_85 : decode cX10_takes 85 = .ok (.ireturn, 1) := by decide +kernel
theorem dX10_takes_86 : decode cX10_takes 86 = .ok (.iload_n 1, 1) := by decide +kernel
theorem dX10_takes_87 : decode cX10_takes 87 = .ok (.i2l, 1) := by decide +kernel
theorem dX10_takes_88 : decode cX10_takes 88 = .ok (.lconst 0, 1) := by decide +kernel
theorem dX10_takes_89 : decode cX10_takes 89 = .ok (.ldc2_w 34, 3) := by decide +kernel
theorem dX10_takes_92 : decode cX10_takes 92 = .ok (.invokestatic 52, 3) := by decide +kernel
theorem dX10_takes_95 : decode cX10_takes 95 = .ok (.ireturn, 1) := by decide +kernel
theorem dX10_takes_96 : decode cX10_takes 96 = .ok (.iload_n 1, 1) := by decide +kernel
theorem dX10_takes_97 : decode cX10_takes 97 = .ok (.i2l, 1) := by decide +kernel
theorem dX10_takes_98 : decode cX10_takes 98 = .ok (.lconst 0, 1) := by decide +kernel
theorem dX10_takes_99 : decode cX10_takes 99 = .ok (.ldc2_w 87, 3) := by decide +kernel
theorem dX10_takes_102 : decode cX10_takes 102 = .ok (.invokestatic 52, 3) := by decide +kernel
theorem dX10_takes_105 : decode cX10_takes 105 = .ok (.ireturn, 1) := by decide +kernel
theorem dX10_takes_106 : decode cX10_takes 106 = .ok (.iload_n 1, 1) := by decide +kernel
theorem dX10_takes_107 : decode cX10_takes 107 = .ok (.i2l, 1) := by decide +kernel
theorem dX10_takes_108 : decode cX10_takes 108 = .ok (.lconst 1, 1) := by decide +kernel
theorem dX10_takes_109 : decode cX10_takes 109 = .ok (.ldc2_w 89, 3) := by decide +kernel
theorem dX10_takes_112 : decode cX10_takes 112 = .ok (.invokestatic 52, 3) := by decide +kernel
theorem dX10_takes_115 : decode cX10_takes 115 = .ok (.ireturn, 1) := by decide +kernel
theorem dX10_takes_116 : decode cX10_takes 116 = .ok (.iload_n 1, 1) := by decide +kernel
theorem dX10_takes_117 : decode cX10_takes 117 = .ok (.i2l, 1) := by decide +kernel
theorem dX10_takes_118 : decode cX10_takes 118 = .ok (.lconst 0, 1) := by decide +kernel
theorem dX10_takes_119 : decode cX10_takes 119 = .ok (.ldc2_w 89, 3) := by decide +kernel
theorem dX10_takes_122 : decode cX10_takes 122 = .ok (.invokestatic 52, 3) := by decide +kernel
theorem dX10_takes_125 : decode cX10_takes 125 = .ok (.ireturn, 1) := by decide +kernel
theorem dX10_takes_126 : decode cX10_takes 126 = .ok (.iload_n 1, 1) := by decide +kernel
theorem dX10_takes_127 : decode cX10_takes 127 = .ok (.i2l, 1) := by decide +kernel
theorem dX10_takes_128 : decode cX10_takes 128 = .ok (.lconst 1, 1) := by decide +kernel
theorem dX10_takes_129 : decode cX10_takes 129 = .ok (.ldc2_w 91, 3) := by decide +kernel
theorem dX10_takes_132 : decode cX10_takes 132 = .ok (.invokestatic 52, 3) := by decide +kernel
theorem dX10_takes_135 : decode cX10_takes 135 = .ok (.ireturn, 1) := by decide +kernel
theorem dX10_takes_136 : decode cX10_takes 136 = .ok (.iload_n 0, 1) := by decide +kernel
theorem dX10_takes_137 : decode cX10_takes 137 = .ok (.bipush 10, 2) := by decide +kernel
theorem dX10_takes_139 : decode cX10_takes 139 = .ok (.if_icmp .ne 19, 3) := by decide +kernel
theorem dX10_takes_142 : decode cX10_takes 142 = .ok (.iload_n 1, 1) := by decide +kernel
theorem dX10_takes_143 : decode cX10_takes 143 = .ok (.i2l, 1) := by decide +kernel
theorem dX10_takes_144 : decode cX10_takes 144 = .ok (.lconst 1, 1) := by decide +kernel
theorem dX10_takes_145 : decode cX10_takes 145 = .ok (.ldc2_w 93, 3) := by decide +kernel
theorem dX10_takes_148 : decode cX10_takes 148 = .ok (.invokestatic 52, 3) := by decide +kernel
theorem dX10_takes_151 : decode cX10_takes 151 = .ok (.ifCond .eq 7, 3) := by decide +kernel
theorem dX10_takes_154 : decode cX10_takes 154 = .ok (.iconst 1, 1) := by decide +kernel
theorem dX10_takes_155 : decode cX10_takes 155 = .ok (.goto 4, 3) := by decide +kernel
theorem dX10_takes_158 : decode cX10_takes 158 = .ok (.iconst 0, 1) := by decide +kernel
theorem dX10_takes_159 : decode cX10_takes 159 = .ok (.ireturn, 1) := by decide +kernel
set_option maxRecDepth 20000 in
theorem ggX10_set_X10_takes : GoodIn wsX10_set wsX10_takes := goodIn_r _ [5, 6, 7, 8, 9, 10, 11, 12, 13, 14, 4, 15] (by decide +kernel) (by decide +kernel)
set_option maxRecDepth 20000 in
theorem gX10_set_X10_takes : GoodIn wsX10_set (va_wsS RX10 95 yX10_takes wsX10_takes) := goodIn_app (goodIn_of _ (by decide +kernel)) ggX10_set_X10_takes
theorem dX10_set_0 : decode cX10_set 0 = .ok (.iload_n 1, 1) := by decide +kernel
theorem dX10_set_1 : decode cX10_set 1 = .ok (.iload_n 2, 1) := by decide +kernel
theorem dX10_set_2 : decode cX10_set 2 = .ok (.invokestatic 95, 3) := by decide +kernel
theorem dX10_set_5 : decode cX10_set 5 = .ok (.ifCond .ne 6, 3) := by decide +kernel
theorem dX10_set_8 : decode cX10_set 8 = .ok (.bipush (-2), 2) := by decide +kernel
theorem dX10_set_10 : decode cX10_set 10 = .ok (.ireturn, 1) := by decide +kernel
theorem dX10_set_11 : decode cX10_set 11 = .ok (.aload_n 0, 1) := by decide +kernel
theorem dX10_set_12 : decode cX10_set 12 = .ok (.getfield 7, 3) := by decide +kernel
theorem dX10_set_15 : decode cX10_set 15 = .ok (.bipush 64, 2) := by decide +kernel
theorem dX10_set_17 : decode cX10_set 17 = .ok (.iload_n 1, 1) := by decide +kernel
theorem dX10_set_18 : decode cX10_set 18 = .ok (.iadd, 1) := by decide +kernel
theorem dX10_set_19 : decode cX10_set 19 = .ok (.laload, 1) := by decide +kernel
theorem dX10_set_20 : decode cX10_set 20 = .ok (.l2i, 1) := by decide +kernel
theorem dX10_set_21 : decode cX10_set 21 = .ok (.istore_n 3, 1) := by decide +kernel
theorem dX10_set_22 : decode cX10_set 22 = .ok (.aload_n 0, 1) := by decide +kernel
theorem dX10_set_23 : decode cX10_set 23 = .ok (.getfield 7, 3) := by decide +kernel
theorem dX10_set_26 : decode cX10_set 26 = .ok (.bipush 64, 2) := by decide +kernel
theorem dX10_set_28 : decode cX10_set 28 = .ok (.iload_n 1, 1) := by decide +kernel
theorem dX10_set_29 : decode cX10_set 29 = .ok (.iadd, 1) := by decide +kernel
theorem dX10_set_30 : decode cX10_set 30 = .ok (.iload_n 2, 1) := by decide +kernel
theorem dX10_set_31 : decode cX10_set 31 = .ok (.i2l, 1) := by decide +kernel
theorem dX10_set_32 : decode cX10_set 32 = .ok (.lastore, 1) := by decide +kernel
theorem dX10_set_33 : decode cX10_set 33 = .ok (.iload_n 3, 1) := by decide +kernel
theorem dX10_set_34 : decode cX10_set 34 = .ok (.ireturn, 1) := by decide +kernel
set_option maxRecDepth 20000 in
theorem ggX10_leg_X10_in : GoodIn wsX10_leg wsX10_in := goodIn_r _ [8] (by decide +kernel) (by decide +kernel)
set_option maxRecDepth 20000 in
theorem gX10_leg_X10_in : GoodIn wsX10_leg (va_wsS RX10 52 yX10_in wsX10_in) := goodIn_app (goodIn_of _ (by decide +kernel)) ggX10_leg_X10_in
set_option maxRecDepth 20000 in
theorem ggX10_leg_X10_legs : GoodIn wsX10_leg wsX10_legs := goodIn_r _ [12, 4, 13, 14, 15, 16, 17, 18, 19, 20, 21, 22] (by decide +kernel) (by decide +kernel)
set_option maxRecDepth 20000 in
theorem gX10_leg_X10_legs : GoodIn wsX10_leg (wsV RX10 103 RX10 yX10_legs wsX10_legs) := goodIn_app (goodIn_of _ (by decide +kernel)) ggX10_leg_X10_legs
theorem dX10_leg_0 : decode cX10_leg 0 = .ok (.iload_n 1, 1) := by decide +kernel
theorem dX10_leg_1 : decode cX10_leg 1 = .ok (.i2l, 1) := by decide +kernel
theorem dX10_leg_2 : decode cX10_leg 2 = .ok (.lconst 1, 1) := by decide +kernel
theorem dX10_leg_3 : decode cX10_leg 3 = .ok (.ldc2_w 99, 3) := by decide +kernel
theorem dX10_leg_6 : decode cX10_leg 6 = .ok (.invokestatic 52, 3) := by decide +kernel
theorem dX10_leg_9 : decode cX10_leg 9 = .ok (.ifCond .eq 17, 3) := by decide +kernel
theorem dX10_leg_12 : decode cX10_leg 12 = .ok (.iload_n 2, 1) := by decide +kernel
theorem dX10_leg_13 : decode cX10_leg 13 = .ok (.i2l, 1) := by decide +kernel
theorem dX10_leg_14 : decode cX10_leg 14 = .ok (.ldc2_w 101, 3) := by decide +kernel
theorem dX10_leg_17 : decode cX10_leg 17 = .ok (.ldc2_w 42, 3) := by decide +kernel
theorem dX10_leg_20 : decode cX10_leg 20 = .ok (.invokestatic 52, 3) := by decide +kernel
theorem dX10_leg_23 : decode cX10_leg 23 = .ok (.ifCond .ne 6, 3) := by decide +kernel
theorem dX10_leg_26 : decode cX10_leg 26 = .ok (.bipush (-2), 2) := by decide +kernel
theorem dX10_leg_28 : decode cX10_leg 28 = .ok (.ireturn, 1) := by decide +kernel
theorem dX10_leg_29 : decode cX10_leg 29 = .ok (.aload_n 0, 1) := by decide +kernel
theorem dX10_leg_30 : decode cX10_leg 30 = .ok (.invokevirtual 103, 3) := by decide +kernel
theorem dX10_leg_33 : decode cX10_leg 33 = .ok (.bipush 12, 2) := by decide +kernel
theorem dX10_leg_35 : decode cX10_leg 35 = .ok (.if_icmp .ne 6, 3) := by decide +kernel
theorem dX10_leg_38 : decode cX10_leg 38 = .ok (.bipush (-4), 2) := by decide +kernel
theorem dX10_leg_40 : decode cX10_leg 40 = .ok (.ireturn, 1) := by decide +kernel
theorem dX10_leg_41 : decode cX10_leg 41 = .ok (.aload_n 0, 1) := by decide +kernel
theorem dX10_leg_42 : decode cX10_leg 42 = .ok (.invokevirtual 103, 3) := by decide +kernel
theorem dX10_leg_45 : decode cX10_leg 45 = .ok (.istore_n 3, 1) := by decide +kernel
theorem dX10_leg_46 : decode cX10_leg 46 = .ok (.aload_n 0, 1) := by decide +kernel
theorem dX10_leg_47 : decode cX10_leg 47 = .ok (.getfield 7, 3) := by decide +kernel
theorem dX10_leg_50 : decode cX10_leg 50 = .ok (.bipush 40, 2) := by decide +kernel
theorem dX10_leg_52 : decode cX10_leg 52 = .ok (.iconst 2, 1) := by decide +kernel
theorem dX10_leg_53 : decode cX10_leg 53 = .ok (.iload_n 3, 1) := by decide +kernel
theorem dX10_leg_54 : decode cX10_leg 54 = .ok (.imul, 1) := by decide +kernel
theorem dX10_leg_55 : decode cX10_leg 55 = .ok (.iadd, 1) := by decide +kernel
theorem dX10_leg_56 : decode cX10_leg 56 = .ok (.iload_n 1, 1) := by decide +kernel
theorem dX10_leg_57 : decode cX10_leg 57 = .ok (.i2l, 1) := by decide +kernel
theorem dX10_leg_58 : decode cX10_leg 58 = .ok (.lastore, 1) := by decide +kernel
theorem dX10_leg_59 : decode cX10_leg 59 = .ok (.aload_n 0, 1) := by decide +kernel
theorem dX10_leg_60 : decode cX10_leg 60 = .ok (.getfield 7, 3) := by decide +kernel
theorem dX10_leg_63 : decode cX10_leg 63 = .ok (.bipush 40, 2) := by decide +kernel
theorem dX10_leg_65 : decode cX10_leg 65 = .ok (.iconst 2, 1) := by decide +kernel
theorem dX10_leg_66 : decode cX10_leg 66 = .ok (.iload_n 3, 1) := by decide +kernel
theorem dX10_leg_67 : decode cX10_leg 67 = .ok (.imul, 1) := by decide +kernel
theorem dX10_leg_68 : decode cX10_leg 68 = .ok (.iadd, 1) := by decide +kernel
theorem dX10_leg_69 : decode cX10_leg 69 = .ok (.iconst 1, 1) := by decide +kernel
theorem dX10_leg_70 : decode cX10_leg 70 = .ok (.iadd, 1) := by decide +kernel
theorem dX10_leg_71 : decode cX10_leg 71 = .ok (.iload_n 2, 1) := by decide +kernel
theorem dX10_leg_72 : decode cX10_leg 72 = .ok (.i2l, 1) := by decide +kernel
theorem dX10_leg_73 : decode cX10_leg 73 = .ok (.lastore, 1) := by decide +kernel
theorem dX10_leg_74 : decode cX10_leg 74 = .ok (.aload_n 0, 1) := by decide +kernel
theorem dX10_leg_75 : decode cX10_leg 75 = .ok (.getfield 7, 3) := by decide +kernel
theorem dX10_leg_78 : decode cX10_leg 78 = .ok (.bipush 76, 2) := by decide +kernel
theorem dX10_leg_80 : decode cX10_leg 80 = .ok (.dup2, 1) := by decide +kernel
theorem dX10_leg_81 : decode cX10_leg 81 = .ok (.laload, 1) := by decide +kernel
theorem dX10_leg_82 : decode cX10_leg 82 = .ok (.lconst 1, 1) := by decide +kernel
theorem dX10_leg_83 : decode cX10_leg 83 = .ok (.ladd, 1) := by decide +kernel
theorem dX10_leg_84 : decode cX10_leg 84 = .ok (.lastore, 1) := by decide +kernel
theorem dX10_leg_85 : decode cX10_leg 85 = .ok (.iload_n 3, 1) := by decide +kernel
theorem dX10_leg_86 : decode cX10_leg 86 = .ok (.ireturn, 1) := by decide +kernel
set_option maxRecDepth 20000 in
theorem ggX10_cut_X10_legs : GoodIn wsX10_cut wsX10_legs := goodIn_r _ [6, 1, 7, 8, 9, 10, 11, 12, 13, 14, 15, 16] (by decide +kernel) (by decide +kernel)
set_option maxRecDepth 20000 in
theorem gX10_cut_X10_legs : GoodIn wsX10_cut (wsV RX10 103 RX10 yX10_legs wsX10_legs) := goodIn_app (goodIn_of _ (by decide +kernel)) ggX10_cut_X10_legs
theorem dX10_cut_0 : decode cX10_cut 0 = .ok (.aload_n 0, 1) := by decide +kernel
theorem dX10_cut_1 : decode cX10_cut 1 = .ok (.invokevirtual 103, 3) := by decide +kernel
theorem dX10_cut_4 : decode cX10_cut 4 = .ok (.ifCond .eq 21, 3) := by decide +kernel
theorem dX10_cut_7 : decode cX10_cut 7 = .ok (.aload_n 0, 1) := by decide +kernel
theorem dX10_cut_8 : decode cX10_cut 8 = .ok (.getfield 7, 3) := by decide +kernel
theorem dX10_cut_11 : decode cX10_cut 11 = .ok (.bipush 84, 2) := by decide +kernel
theorem dX10_cut_13 : decode cX10_cut 13 = .ok (.laload, 1) := by decide +kernel
theorem dX10_cut_14 : decode cX10_cut 14 = .ok (.aload_n 0, 1) := by decide +kernel
theorem dX10_cut_15 : decode cX10_cut 15 = .ok (.invokevirtual 103, 3) := by decide +kernel
theorem dX10_cut_18 : decode cX10_cut 18 = .ok (.iconst 1, 1) := by decide +kernel
theorem dX10_cut_19 : decode cX10_cut 19 = .ok (.isub, 1) := by decide +kernel
theorem dX10_cut_20 : decode cX10_cut 20 = .ok (.i2l, 1) := by decide +kernel
theorem dX10_cut_21 : decode cX10_cut 21 = .ok (.lcmp, 1) := by decide +kernel
theorem dX10_cut_22 : decode cX10_cut 22 = .ok (.ifCond .ne 6, 3) := by decide +kernel
theorem dX10_cut_25 : decode cX10_cut 25 = .ok (.bipush (-5), 2) := by decide +kernel
theorem dX10_cut_27 : decode cX10_cut 27 = .ok (.ireturn, 1) := by decide +kernel
theorem dX10_cut_28 : decode cX10_cut 28 = .ok (.aload_n 0, 1) := by decide +kernel
theorem dX10_cut_29 : decode cX10_cut 29 = .ok (.getfield 7, 3) := by decide +kernel
theorem dX10_cut_32 : decode cX10_cut 32 = .ok (.bipush 76, 2) := by decide +kernel
theorem dX10_cut_34 : decode cX10_cut 34 = .ok (.dup2, 1) := by decide +kernel
theorem dX10_cut_35 : decode cX10_cut 35 = .ok (.laload, 1) := by decide +kernel
theorem dX10_cut_36 : decode cX10_cut 36 = .ok (.lconst 1, 1) := by decide +kernel
theorem dX10_cut_37 : decode cX10_cut 37 = .ok (.lsub, 1) := by decide +kernel
theorem dX10_cut_38 : decode cX10_cut 38 = .ok (.lastore, 1) := by decide +kernel
theorem dX10_cut_39 : decode cX10_cut 39 = .ok (.aload_n 0, 1) := by decide +kernel
theorem dX10_cut_40 : decode cX10_cut 40 = .ok (.invokevirtual 103, 3) := by decide +kernel
theorem dX10_cut_43 : decode cX10_cut 43 = .ok (.ireturn, 1) := by decide +kernel
set_option maxRecDepth 20000 in
theorem ggX10_hasNext_X10_legs : GoodIn wsX10_hasNext wsX10_legs := goodIn_r _ [6, 1, 7, 8, 9, 10, 11, 12, 13, 14, 15, 16] (by decide +kernel) (by decide +kernel)
set_option maxRecDepth 20000 in
theorem gX10_hasNext_X10_legs : GoodIn wsX10_hasNext (wsV RX10 103 RX10 yX10_legs wsX10_legs) := goodIn_app (goodIn_of _ (by decide +kernel)) ggX10_hasNext_X10_legs
theorem dX10_hasNext_0 : decode cX10_hasNext 0 = .ok (.aload_n 0, 1) := by decide +kernel
theorem dX10_hasNext_1 : decode cX10_hasNext 1 = .ok (.getfield 7, 3) := by decide +kernel
theorem dX10_hasNext_4 : decode cX10_hasNext 4 = .ok (.bipush 84, 2) := by decide +kernel
theorem dX10_hasNext_6 : decode cX10_hasNext 6 = .ok (.laload, 1) := by decide +kernel
theorem dX10_hasNext_7 : decode cX10_hasNext 7 = .ok (.lconst 1, 1) := by decide +kernel
theorem dX10_hasNext_8 : decode cX10_hasNext 8 = .ok (.ladd, 1) := by decide +kernel
theorem dX10_hasNext_9 : decode cX10_hasNext 9 = .ok (.aload_n 0, 1) := by decide +kernel
theorem dX10_hasNext_10 : decode cX10_hasNext 10 = .ok (.invokevirtual 103, 3) := by decide +kernel
theorem dX10_hasNext_13 : decode cX10_hasNext 13 = .ok (.i2l, 1) := by decide +kernel
theorem dX10_hasNext_14 : decode cX10_hasNext 14 = .ok (.lcmp, 1) := by decide +kernel
theorem dX10_hasNext_15 : decode cX10_hasNext 15 = .ok (.ifCond .ge 7, 3) := by decide +kernel
theorem dX10_hasNext_18 : decode cX10_hasNext 18 = .ok (.iconst 1, 1) := by decide +kernel
theorem dX10_hasNext_19 : decode cX10_hasNext 19 = .ok (.goto 4, 3) := by decide +kernel
theorem dX10_hasNext_22 : decode cX10_hasNext 22 = .ok (.iconst 0, 1) := by decide +kernel
theorem dX10_hasNext_23 : decode cX10_hasNext 23 = .ok (.ireturn, 1) := by decide +kernel
theorem dX10_begin_0 : decode cX10_begin 0 = .ok (.aload_n 0, 1) := by decide +kernel
theorem dX10_begin_1 : decode cX10_begin 1 = .ok (.getfield 7, 3) := by decide +kernel
theorem dX10_begin_4 : decode cX10_begin 4 = .ok (.bipush 84, 2) := by decide +kernel
theorem dX10_begin_6 : decode cX10_begin 6 = .ok (.dup2, 1) := by decide +kernel
theorem dX10_begin_7 : decode cX10_begin 7 = .ok (.laload, 1) := by decide +kernel
theorem dX10_begin_8 : decode cX10_begin 8 = .ok (.lconst 1, 1) := by decide +kernel
theorem dX10_begin_9 : decode cX10_begin 9 = .ok (.ladd, 1) := by decide +kernel
theorem dX10_begin_10 : decode cX10_begin 10 = .ok (.lastore, 1) := by decide +kernel
theorem dX10_begin_11 : decode cX10_begin 11 = .ok (.aload_n 0, 1) := by decide +kernel
theorem dX10_begin_12 : decode cX10_begin 12 = .ok (.getfield 7, 3) := by decide +kernel
theorem dX10_begin_15 : decode cX10_begin 15 = .ok (.bipush 85, 2) := by decide +kernel
theorem dX10_begin_17 : decode cX10_begin 17 = .ok (.lconst 0, 1) := by decide +kernel
theorem dX10_begin_18 : decode cX10_begin 18 = .ok (.lastore, 1) := by decide +kernel
theorem dX10_begin_19 : decode cX10_begin 19 = .ok (.aload_n 0, 1) := by decide +kernel
theorem dX10_begin_20 : decode cX10_begin 20 = .ok (.getfield 7, 3) := by decide +kernel
theorem dX10_begin_23 : decode cX10_begin 23 = .ok (.bipush 86, 2) := by decide +kernel
theorem dX10_begin_25 : decode cX10_begin 25 = .ok (.lconst 1, 1) := by decide +kernel
theorem dX10_begin_26 : decode cX10_begin 26 = .ok (.lastore, 1) := by decide +kernel
theorem dX10_begin_27 : decode cX10_begin 27 = .ok (.return_, 1) := by decide +kernel
set_option maxRecDepth 20000 in
theorem ggX10_depart_X10_isAway : GoodIn wsX10_depart wsX10_isAway := goodIn_r _ [6, 1, 23, 24, 25, 26, 27, 28, 29, 30, 31, 32] (by decide +kernel) (by decide +kernel)
set_option maxRecDepth 20000 in
theorem gX10_depart_X10_isAway : GoodIn wsX10_depart (wsV RX10 106 RX10 yX10_isAway wsX10_isAway) := goodIn_app (goodIn_of _ (by decide +kernel)) ggX10_depart_X10_isAway
set_option maxRecDepth 20000 in
theorem ggX10_depart_X10_isDoorOpen : GoodIn wsX10_depart wsX10_isDoorOpen := goodIn_r _ [10, 1, 23, 24, 25, 26, 27, 28, 29, 30, 31, 32] (by decide +kernel) (by decide +kernel)
set_option maxRecDepth 20000 in
theorem gX10_depart_X10_isDoorOpen : GoodIn wsX10_depart (wsV RX10 62 RX10 yX10_isDoorOpen wsX10_isDoorOpen) := goodIn_app (goodIn_of _ (by decide +kernel)) ggX10_depart_X10_isDoorOpen
set_option maxRecDepth 20000 in
theorem ggX10_depart_X10_hasNext : GoodIn wsX10_depart wsX10_hasNext := goodIn_r _ [14, 1, 15, 16, 17, 5, 18, 23, 24, 25, 26, 27, 28, 29, 30, 31, 32] (by decide +kernel) (by decide +kernel)
set_option maxRecDepth 20000 in
theorem gX10_depart_X10_hasNext : GoodIn wsX10_depart (wsV RX10 109 RX10 yX10_hasNext wsX10_hasNext) := goodIn_app (goodIn_of _ (by decide +kernel)) ggX10_depart_X10_hasNext
set_option maxRecDepth 20000 in
theorem ggX10_depart_X10_begin : GoodIn wsX10_depart wsX10_begin := goodIn_r _ [22, 1, 23, 24, 25, 26, 27, 28, 29, 30, 31, 32] (by decide +kernel) (by decide +kernel)
set_option maxRecDepth 20000 in
theorem gX10_depart_X10_begin : GoodIn wsX10_depart (wsV RX10 112 RX10 yX10_begin wsX10_begin) := goodIn_app (goodIn_of _ (by decide +kernel)) ggX10_depart_X10_begin
theorem dX10_depart_0 : decode cX10_depart 0 = .ok (.aload_n 0, 1) := by decide +kernel
theorem dX10_depart_1 : decode cX10_depart 1 = .ok (.invokevirtual 106, 3) := by decide +kernel
theorem dX10_depart_4 : decode cX10_depart 4 = .ok (.ifCond .ne 17, 3) := by decide +kernel
theorem dX10_depart_7 : decode cX10_depart 7 = .ok (.aload_n 0, 1) := by decide +kernel
theorem dX10_depart_8 : decode cX10_depart 8 = .ok (.invokevirtual 62, 3) := by decide +kernel
theorem dX10_depart_11 : decode cX10_depart 11 = .ok (.ifCond .ne 10, 3) := by decide +kernel
theorem dX10_depart_14 : decode cX10_depart 14 = .ok (.aload_n 0, 1) := by decide +kernel
theorem dX10_depart_15 : decode cX10_depart 15 = .ok (.invokevirtual 109, 3) := by decide +kernel
theorem dX10_depart_18 : decode cX10_depart 18 = .ok (.ifCond .ne 6, 3) := by decide +kernel
theorem dX10_depart_21 : decode cX10_depart 21 = .ok (.bipush (-5), 2) := by decide +kernel
theorem dX10_depart_23 : decode cX10_depart 23 = .ok (.ireturn, 1) := by decide +kernel
theorem dX10_depart_24 : decode cX10_depart 24 = .ok (.aload_n 0, 1) := by decide +kernel
theorem dX10_depart_25 : decode cX10_depart 25 = .ok (.invokevirtual 112, 3) := by decide +kernel
theorem dX10_depart_28 : decode cX10_depart 28 = .ok (.aload_n 0, 1) := by decide +kernel
theorem dX10_depart_29 : decode cX10_depart 29 = .ok (.getfield 7, 3) := by decide +kernel
theorem dX10_depart_32 : decode cX10_depart 32 = .ok (.bipush 84, 2) := by decide +kernel
theorem dX10_depart_34 : decode cX10_depart 34 = .ok (.laload, 1) := by decide +kernel
theorem dX10_depart_35 : decode cX10_depart 35 = .ok (.l2i, 1) := by decide +kernel
theorem dX10_depart_36 : decode cX10_depart 36 = .ok (.ireturn, 1) := by decide +kernel
theorem dX10_outside_0 : decode cX10_outside 0 = .ok (.aload_n 0, 1) := by decide +kernel
theorem dX10_outside_1 : decode cX10_outside 1 = .ok (.getfield 7, 3) := by decide +kernel
theorem dX10_outside_4 : decode cX10_outside 4 = .ok (.bipush 84, 2) := by decide +kernel
theorem dX10_outside_6 : decode cX10_outside 6 = .ok (.laload, 1) := by decide +kernel
theorem dX10_outside_7 : decode cX10_outside 7 = .ok (.lconst 0, 1) := by decide +kernel
theorem dX10_outside_8 : decode cX10_outside 8 = .ok (.lcmp, 1) := by decide +kernel
theorem dX10_outside_9 : decode cX10_outside 9 = .ok (.ifCond .ge 9, 3) := by decide +kernel
theorem dX10_outside_12 : decode cX10_outside 12 = .ok (.ldc2_w 30, 3) := by decide +kernel
theorem dX10_outside_15 : decode cX10_outside 15 = .ok (.goto 23, 3) := by decide +kernel
theorem dX10_outside_18 : decode cX10_outside 18 = .ok (.aload_n 0, 1) := by decide +kernel
theorem dX10_outside_19 : decode cX10_outside 19 = .ok (.getfield 7, 3) := by decide +kernel
theorem dX10_outside_22 : decode cX10_outside 22 = .ok (.bipush 40, 2) := by decide +kernel
theorem dX10_outside_24 : decode cX10_outside 24 = .ok (.iconst 2, 1) := by decide +kernel
theorem dX10_outside_25 : decode cX10_outside 25 = .ok (.aload_n 0, 1) := by decide +kernel
theorem dX10_outside_26 : decode cX10_outside 26 = .ok (.getfield 7, 3) := by decide +kernel
theorem dX10_outside_29 : decode cX10_outside 29 = .ok (.bipush 84, 2) := by decide +kernel
theorem dX10_outside_31 : decode cX10_outside 31 = .ok (.laload, 1) := by decide +kernel
theorem dX10_outside_32 : decode cX10_outside 32 = .ok (.l2i, 1) := by decide +kernel
theorem dX10_outside_33 : decode cX10_outside 33 = .ok (.imul, 1) := by decide +kernel
theorem dX10_outside_34 : decode cX10_outside 34 = .ok (.iadd, 1) := by decide +kernel
theorem dX10_outside_35 : decode cX10_outside 35 = .ok (.iconst 1, 1) := by decide +kernel
theorem dX10_outside_36 : decode cX10_outside 36 = .ok (.iadd, 1) := by decide +kernel
theorem dX10_outside_37 : decode cX10_outside 37 = .ok (.laload, 1) := by decide +kernel
theorem dX10_outside_38 : decode cX10_outside 38 = .ok (.lreturn, 1) := by decide +kernel
set_option maxRecDepth 20000 in
theorem ggX10_goesOff_X10_of : GoodIn wsX10_goesOff wsX10_of := goodIn_r _ [8, 1, 9, 10, 11, 12, 13, 14, 15, 16, 17, 18] (by decide +kernel) (by decide +kernel)
set_option maxRecDepth 20000 in
theorem gX10_goesOff_X10_of : GoodIn wsX10_goesOff (wsV RX10 74 RX10 yX10_of wsX10_of) := goodIn_app (goodIn_of _ (by decide +kernel)) ggX10_goesOff_X10_of
theorem dX10_goesOff_0 : decode cX10_goesOff 0 = .ok (.aload_n 0, 1) := by decide +kernel
theorem dX10_goesOff_1 : decode cX10_goesOff 1 = .ok (.getfield 7, 3) := by decide +kernel
theorem dX10_goesOff_4 : decode cX10_goesOff 4 = .ok (.bipush 78, 2) := by decide +kernel
theorem dX10_goesOff_6 : decode cX10_goesOff 6 = .ok (.laload, 1) := by decide +kernel
theorem dX10_goesOff_7 : decode cX10_goesOff 7 = .ok (.ldc2_w 115, 3) := by decide +kernel
theorem dX10_goesOff_10 : decode cX10_goesOff 10 = .ok (.ladd, 1) := by decide +kernel
theorem dX10_goesOff_11 : decode cX10_goesOff 11 = .ok (.aload_n 0, 1) := by decide +kernel
theorem dX10_goesOff_12 : decode cX10_goesOff 12 = .ok (.getfield 7, 3) := by decide +kernel
theorem dX10_goesOff_15 : decode cX10_goesOff 15 = .ok (.bipush 64, 2) := by decide +kernel
theorem dX10_goesOff_17 : decode cX10_goesOff 17 = .ok (.laload, 1) := by decide +kernel
theorem dX10_goesOff_18 : decode cX10_goesOff 18 = .ok (.lmul, 1) := by decide +kernel
theorem dX10_goesOff_19 : decode cX10_goesOff 19 = .ok (.ldc2_w 34, 3) := by decide +kernel
theorem dX10_goesOff_22 : decode cX10_goesOff 22 = .ok (.aload_n 0, 1) := by decide +kernel
theorem dX10_goesOff_23 : decode cX10_goesOff 23 = .ok (.iload_n 1, 1) := by decide +kernel
theorem dX10_goesOff_24 : decode cX10_goesOff 24 = .ok (.iconst 0, 1) := by decide +kernel
theorem dX10_goesOff_25 : decode cX10_goesOff 25 = .ok (.invokevirtual 74, 3) := by decide +kernel
theorem dX10_goesOff_28 : decode cX10_goesOff 28 = .ok (.lmul, 1) := by decide +kernel
theorem dX10_goesOff_29 : decode cX10_goesOff 29 = .ok (.ldiv, 1) := by decide +kernel
theorem dX10_goesOff_30 : decode cX10_goesOff 30 = .ok (.lstore_n 2, 1) := by decide +kernel
theorem dX10_goesOff_31 : decode cX10_goesOff 31 = .ok (.lload_n 2, 1) := by decide +kernel
theorem dX10_goesOff_32 : decode cX10_goesOff 32 = .ok (.lconst 0, 1) := by decide +kernel
theorem dX10_goesOff_33 : decode cX10_goesOff 33 = .ok (.lcmp, 1) := by decide +kernel
theorem dX10_goesOff_34 : decode cX10_goesOff 34 = .ok (.ifCond .ge 7, 3) := by decide +kernel
theorem dX10_goesOff_37 : decode cX10_goesOff 37 = .ok (.lconst 0, 1) := by decide +kernel
theorem dX10_goesOff_38 : decode cX10_goesOff 38 = .ok (.goto 24, 3) := by decide +kernel
theorem dX10_goesOff_41 : decode cX10_goesOff 41 = .ok (.lload_n 2, 1) := by decide +kernel
theorem dX10_goesOff_42 : decode cX10_goesOff 42 = .ok (.aload_n 0, 1) := by decide +kernel
theorem dX10_goesOff_43 : decode cX10_goesOff 43 = .ok (.iload_n 1, 1) := by decide +kernel
theorem dX10_goesOff_44 : decode cX10_goesOff 44 = .ok (.iconst 2, 1) := by decide +kernel
theorem dX10_goesOff_45 : decode cX10_goesOff 45 = .ok (.invokevirtual 74, 3) := by decide +kernel
theorem dX10_goesOff_48 : decode cX10_goesOff 48 = .ok (.lcmp, 1) := by decide +kernel
theorem dX10_goesOff_49 : decode cX10_goesOff 49 = .ok (.ifCond .ge 7, 3) := by decide +kernel
theorem dX10_goesOff_52 : decode cX10_goesOff 52 = .ok (.lload_n 2, 1) := by decide +kernel
theorem dX10_goesOff_53 : decode cX10_goesOff 53 = .ok (.goto 9, 3) := by decide +kernel
theorem dX10_goesOff_56 : decode cX10_goesOff 56 = .ok (.aload_n 0, 1) := by decide +kernel
theorem dX10_goesOff_57 : decode cX10_goesOff 57 = .ok (.iload_n 1, 1) := by decide +kernel
theorem dX10_goesOff_58 : decode cX10_goesOff 58 = .ok (.iconst 2, 1) := by decide +kernel
theorem dX10_goesOff_59 : decode cX10_goesOff 59 = .ok (.invokevirtual 74, 3) := by decide +kernel
theorem dX10_goesOff_62 : decode cX10_goesOff 62 = .ok (.lreturn, 1) := by decide +kernel
set_option maxRecDepth 20000 in
theorem ggX10_goOff_X10_boxes : GoodIn wsX10_goOff wsX10_boxes := goodIn_r _ [6, 1, 21, 22, 23, 24, 25, 26, 27, 28, 29, 30] (by decide +kernel) (by decide +kernel)
set_option maxRecDepth 20000 in
theorem gX10_goOff_X10_boxes : GoodIn wsX10_goOff (wsV RX10 48 RX10 yX10_boxes wsX10_boxes) := goodIn_app (goodIn_of _ (by decide +kernel)) ggX10_goOff_X10_boxes
set_option maxRecDepth 20000 in
theorem ggX10_goOff_X10_goesOff : GoodIn wsX10_goOff wsX10_goesOff := goodIn_r _ [10, 1, 11, 12, 13, 14, 15, 5, 16, 21, 22, 23, 24, 25, 26, 27, 28, 29, 30] (by decide +kernel) (by decide +kernel)
set_option maxRecDepth 20000 in
theorem gX10_goOff_X10_goesOff : GoodIn wsX10_goOff (wsV RX10 117 RX10 yX10_goesOff wsX10_goesOff) := goodIn_app (goodIn_of _ (by decide +kernel)) ggX10_goOff_X10_goesOff
set_option maxRecDepth 20000 in
theorem ggX10_goOff_X10_of : GoodIn wsX10_goOff wsX10_of := goodIn_r _ [16, 1, 21, 22, 23, 24, 25, 26, 27, 28, 29, 30] (by decide +kernel) (by decide +kernel)
set_option maxRecDepth 20000 in
theorem gX10_goOff_X10_of : GoodIn wsX10_goOff (wsV RX10 74 RX10 yX10_of wsX10_of) := goodIn_app (goodIn_of _ (by decide +kernel)) ggX10_goOff_X10_of
set_option maxRecDepth 20000 in
theorem ggX10_goOff_X10_lay : GoodIn wsX10_goOff wsX10_lay := goodIn_r _ [20, 1, 21, 22, 23, 24, 25, 26, 27, 28, 29, 30] (by decide +kernel) (by decide +kernel)
set_option maxRecDepth 20000 in
theorem gX10_goOff_X10_lay : GoodIn wsX10_goOff (wsV RX10 66 RX10 yX10_lay wsX10_lay) := goodIn_app (goodIn_of _ (by decide +kernel)) ggX10_goOff_X10_lay
theorem dX10_goOff_0 : decode cX10_goOff 0 = .ok (.lconst 0, 1) := by decide +kernel
theorem dX10_goOff_1 : decode cX10_goOff 1 = .ok (.lstore_n 1, 1) := by decide +kernel
theorem dX10_goOff_2 : decode cX10_goOff 2 = .ok (.iconst 0, 1) := by decide +kernel
theorem dX10_goOff_3 : decode cX10_goOff 3 = .ok (.istore_n 3, 1) := by decide +kernel
theorem dX10_goOff_4 : decode cX10_goOff 4 = .ok (.iload_n 3, 1) := by decide +kernel
theorem dX10_goOff_5 : decode cX10_goOff 5 = .ok (.aload_n 0, 1) := by decide +kernel
theorem dX10_goOff_6 : decode cX10_goOff 6 = .ok (.invokevirtual 48, 3) := by decide +kernel
theorem dX10_goOff_9 : decode cX10_goOff 9 = .ok (.if_icmp .ge 66, 3) := by decide +kernel
theorem dX10_goOff_12 : decode cX10_goOff 12 = .ok (.aload_n 0, 1) := by decide +kernel
theorem dX10_goOff_13 : decode cX10_goOff 13 = .ok (.iload_n 3, 1) := by decide +kernel
theorem dX10_goOff_14 : decode cX10_goOff 14 = .ok (.invokevirtual 117, 3) := by decide +kernel
theorem dX10_goOff_17 : decode cX10_goOff 17 = .ok (.lstore 4, 2) := by decide +kernel
theorem dX10_goOff_19 : decode cX10_goOff 19 = .ok (.aload_n 0, 1) := by decide +kernel
theorem dX10_goOff_20 : decode cX10_goOff 20 = .ok (.iload_n 3, 1) := by decide +kernel
theorem dX10_goOff_21 : decode cX10_goOff 21 = .ok (.iconst 3, 1) := by decide +kernel
theorem dX10_goOff_22 : decode cX10_goOff 22 = .ok (.invokevirtual 74, 3) := by decide +kernel
theorem dX10_goOff_25 : decode cX10_goOff 25 = .ok (.lload 4, 2) := by decide +kernel
theorem dX10_goOff_27 : decode cX10_goOff 27 = .ok (.lsub, 1) := by decide +kernel
theorem dX10_goOff_28 : decode cX10_goOff 28 = .ok (.lstore 6, 2) := by decide +kernel
theorem dX10_goOff_30 : decode cX10_goOff 30 = .ok (.aload_n 0, 1) := by decide +kernel
theorem dX10_goOff_31 : decode cX10_goOff 31 = .ok (.iload_n 3, 1) := by decide +kernel
theorem dX10_goOff_32 : decode cX10_goOff 32 = .ok (.iconst 2, 1) := by decide +kernel
theorem dX10_goOff_33 : decode cX10_goOff 33 = .ok (.aload_n 0, 1) := by decide +kernel
theorem dX10_goOff_34 : decode cX10_goOff 34 = .ok (.iload_n 3, 1) := by decide +kernel
theorem dX10_goOff_35 : decode cX10_goOff 35 = .ok (.iconst 2, 1) := by decide +kernel
theorem dX10_goOff_36 : decode cX10_goOff 36 = .ok (.invokevirtual 74, 3) := by decide +kernel
theorem dX10_goOff_39 : decode cX10_goOff 39 = .ok (.lload 4, 2) := by decide +kernel
theorem dX10_goOff_41 : decode cX10_goOff 41 = .ok (.lsub, 1) := by decide +kernel
theorem dX10_goOff_42 : decode cX10_goOff 42 = .ok (.invokevirtual 66, 3) := by decide +kernel
theorem dX10_goOff_45 : decode cX10_goOff 45 = .ok (.aload_n 0, 1) := by decide +kernel
theorem dX10_goOff_46 : decode cX10_goOff 46 = .ok (.iload_n 3, 1) := by decide +kernel
theorem dX10_goOff_47 : decode cX10_goOff 47 = .ok (.iconst 3, 1) := by decide +kernel
theorem dX10_goOff_48 : decode cX10_goOff 48 = .ok (.lload 6, 2) := by decide +kernel
theorem dX10_goOff_50 : decode cX10_goOff 50 = .ok (.lconst 0, 1) := by decide +kernel
theorem dX10_goOff_51 : decode cX10_goOff 51 = .ok (.lcmp, 1) := by decide +kernel
theorem dX10_goOff_52 : decode cX10_goOff 52 = .ok (.ifCond .ge 7, 3) := by decide +kernel
theorem dX10_goOff_55 : decode cX10_goOff 55 = .ok (.lconst 0, 1) := by decide +kernel
theorem dX10_goOff_56 : decode cX10_goOff 56 = .ok (.goto 5, 3) := by decide +kernel
theorem dX10_goOff_59 : decode cX10_goOff 59 = .ok (.lload 6, 2) := by decide +kernel
theorem dX10_goOff_61 : decode cX10_goOff 61 = .ok (.invokevirtual 66, 3) := by decide +kernel
theorem dX10_goOff_64 : decode cX10_goOff 64 = .ok (.lload_n 1, 1) := by decide +kernel
theorem dX10_goOff_65 : decode cX10_goOff 65 = .ok (.lload 4, 2) := by decide +kernel
theorem dX10_goOff_67 : decode cX10_goOff 67 = .ok (.ladd, 1) := by decide +kernel
theorem dX10_goOff_68 : decode cX10_goOff 68 = .ok (.lstore_n 1, 1) := by decide +kernel
theorem dX10_goOff_69 : decode cX10_goOff 69 = .ok (.iinc 3 1, 3) := by decide +kernel
theorem dX10_goOff_72 : decode cX10_goOff 72 = .ok (.goto (-68), 3) := by decide +kernel
theorem dX10_goOff_75 : decode cX10_goOff 75 = .ok (.aload_n 0, 1) := by decide +kernel
theorem dX10_goOff_76 : decode cX10_goOff 76 = .ok (.getfield 7, 3) := by decide +kernel
theorem dX10_goOff_79 : decode cX10_goOff 79 = .ok (.bipush 79, 2) := by decide +kernel
theorem dX10_goOff_81 : decode cX10_goOff 81 = .ok (.dup2, 1) := by decide +kernel
theorem dX10_goOff_82 : decode cX10_goOff 82 = .ok (.laload, 1) := by decide +kernel
theorem dX10_goOff_83 : decode cX10_goOff 83 = .ok (.lload_n 1, 1) := by decide +kernel
theorem dX10_goOff_84 : decode cX10_goOff 84 = .ok (.ladd, 1) := by decide +kernel
theorem dX10_goOff_85 : decode cX10_goOff 85 = .ok (.lastore, 1) := by decide +kernel
theorem dX10_goOff_86 : decode cX10_goOff 86 = .ok (.aload_n 0, 1) := by decide +kernel
theorem dX10_goOff_87 : decode cX10_goOff 87 = .ok (.getfield 7, 3) := by decide +kernel
theorem dX10_goOff_90 : decode cX10_goOff 90 = .ok (.bipush 90, 2) := by decide +kernel
theorem dX10_goOff_92 : decode cX10_goOff 92 = .ok (.dup2, 1) := by decide +kernel
theorem dX10_goOff_93 : decode cX10_goOff 93 = .ok (.laload, 1) := by decide +kernel
theorem dX10_goOff_94 : decode cX10_goOff 94 = .ok (.lload_n 1, 1) := by decide +kernel
theorem dX10_goOff_95 : decode cX10_goOff 95 = .ok (.ladd, 1) := by decide +kernel
theorem dX10_goOff_96 : decode cX10_goOff 96 = .ok (.lastore, 1) := by decide +kernel
theorem dX10_goOff_97 : decode cX10_goOff 97 = .ok (.lload_n 1, 1) := by decide +kernel
theorem dX10_goOff_98 : decode cX10_goOff 98 = .ok (.lreturn, 1) := by decide +kernel
set_option maxRecDepth 20000 in
theorem ggX10_warm_X10_outside : GoodIn wsX10_warm wsX10_outside := goodIn_r _ [8, 1, 9, 14, 15, 16, 17, 18, 19, 20, 21, 22, 23] (by decide +kernel) (by decide +kernel)
set_option maxRecDepth 20000 in
theorem gX10_warm_X10_outside : GoodIn wsX10_warm (wsV RX10 121 RX10 yX10_outside wsX10_outside) := goodIn_app (goodIn_of _ (by decide +kernel)) ggX10_warm_X10_outside
set_option maxRecDepth 20000 in
theorem ggX10_warm_X10_isDoorOpen : GoodIn wsX10_warm wsX10_isDoorOpen := goodIn_r _ [13, 1, 14, 15, 16, 17, 18, 19, 20, 21, 22, 23] (by decide +kernel) (by decide +kernel)
set_option maxRecDepth 20000 in
theorem gX10_warm_X10_isDoorOpen : GoodIn wsX10_warm (wsV RX10 62 RX10 yX10_isDoorOpen wsX10_isDoorOpen) := goodIn_app (goodIn_of _ (by decide +kernel)) ggX10_warm_X10_isDoorOpen
theorem dX10_warm_0 : decode cX10_warm 0 = .ok (.aload_n 0, 1) := by decide +kernel
theorem dX10_warm_1 : decode cX10_warm 1 = .ok (.invokevirtual 121, 3) := by decide +kernel
theorem dX10_warm_4 : decode cX10_warm 4 = .ok (.lstore_n 3, 1) := by decide +kernel
theorem dX10_warm_5 : decode cX10_warm 5 = .ok (.aload_n 0, 1) := by decide +kernel
theorem dX10_warm_6 : decode cX10_warm 6 = .ok (.getfield 7, 3) := by decide +kernel
theorem dX10_warm_9 : decode cX10_warm 9 = .ok (.bipush 78, 2) := by decide +kernel
theorem dX10_warm_11 : decode cX10_warm 11 = .ok (.dup2, 1) := by decide +kernel
theorem dX10_warm_12 : decode cX10_warm 12 = .ok (.laload, 1) := by decide +kernel
theorem dX10_warm_13 : decode cX10_warm 13 = .ok (.lload_n 3, 1) := by decide +kernel
theorem dX10_warm_14 : decode cX10_warm 14 = .ok (.aload_n 0, 1) := by decide +kernel
theorem dX10_warm_15 : decode cX10_warm 15 = .ok (.getfield 7, 3) := by decide +kernel
theorem dX10_warm_18 : decode cX10_warm 18 = .ok (.bipush 78, 2) := by decide +kernel
theorem dX10_warm_20 : decode cX10_warm 20 = .ok (.laload, 1) := by decide +kernel
theorem dX10_warm_21 : decode cX10_warm 21 = .ok (.lsub, 1) := by decide +kernel
theorem dX10_warm_22 : decode cX10_warm 22 = .ok (.aload_n 0, 1) := by decide +kernel
theorem dX10_warm_23 : decode cX10_warm 23 = .ok (.getfield 7, 3) := by decide +kernel
theorem dX10_warm_26 : decode cX10_warm 26 = .ok (.bipush 73, 2) := by decide +kernel
theorem dX10_warm_28 : decode cX10_warm 28 = .ok (.laload, 1) := by decide +kernel
theorem dX10_warm_29 : decode cX10_warm 29 = .ok (.ldiv, 1) := by decide +kernel
theorem dX10_warm_30 : decode cX10_warm 30 = .ok (.ladd, 1) := by decide +kernel
theorem dX10_warm_31 : decode cX10_warm 31 = .ok (.lastore, 1) := by decide +kernel
theorem dX10_warm_32 : decode cX10_warm 32 = .ok (.aload_n 0, 1) := by decide +kernel
theorem dX10_warm_33 : decode cX10_warm 33 = .ok (.getfield 7, 3) := by decide +kernel
theorem dX10_warm_36 : decode cX10_warm 36 = .ok (.bipush 81, 2) := by decide +kernel
theorem dX10_warm_38 : decode cX10_warm 38 = .ok (.laload, 1) := by decide +kernel
theorem dX10_warm_39 : decode cX10_warm 39 = .ok (.lconst 1, 1) := by decide +kernel
theorem dX10_warm_40 : decode cX10_warm 40 = .ok (.lcmp, 1) := by decide +kernel
theorem dX10_warm_41 : decode cX10_warm 41 = .ok (.ifCond .ne 30, 3) := by decide +kernel
theorem dX10_warm_44 : decode cX10_warm 44 = .ok (.aload_n 0, 1) := by decide +kernel
theorem dX10_warm_45 : decode cX10_warm 45 = .ok (.getfield 7, 3) := by decide +kernel
theorem dX10_warm_48 : decode cX10_warm 48 = .ok (.bipush 78, 2) := by decide +kernel
theorem dX10_warm_50 : decode cX10_warm 50 = .ok (.dup2, 1) := by decide +kernel
theorem dX10_warm_51 : decode cX10_warm 51 = .ok (.laload, 1) := by decide +kernel
theorem dX10_warm_52 : decode cX10_warm 52 = .ok (.lload_n 3, 1) := by decide +kernel
theorem dX10_warm_53 : decode cX10_warm 53 = .ok (.aload_n 0, 1) := by decide +kernel
theorem dX10_warm_54 : decode cX10_warm 54 = .ok (.getfield 7, 3) := by decide +kernel
theorem dX10_warm_57 : decode cX10_warm 57 = .ok (.bipush 78, 2) := by decide +kernel
theorem dX10_warm_59 : decode cX10_warm 59 = .ok (.laload, 1) := by decide +kernel
theorem dX10_warm_60 : decode cX10_warm 60 = .ok (.lsub, 1) := by decide +kernel
theorem dX10_warm_61 : decode cX10_warm 61 = .ok (.aload_n 0, 1) := by decide +kernel
theorem dX10_warm_62 : decode cX10_warm 62 = .ok (.getfield 7, 3) := by decide +kernel
theorem dX10_warm_65 : decode cX10_warm 65 = .ok (.bipush 73, 2) := by decide +kernel
theorem dX10_warm_67 : decode cX10_warm 67 = .ok (.laload, 1) := by decide +kernel
theorem dX10_warm_68 : decode cX10_warm 68 = .ok (.ldiv, 1) := by decide +kernel
theorem dX10_warm_69 : decode cX10_warm 69 = .ok (.ladd, 1) := by decide +kernel
theorem dX10_warm_70 : decode cX10_warm 70 = .ok (.lastore, 1) := by decide +kernel
theorem dX10_warm_71 : decode cX10_warm 71 = .ok (.aload_n 0, 1) := by decide +kernel
theorem dX10_warm_72 : decode cX10_warm 72 = .ok (.invokevirtual 62, 3) := by decide +kernel
theorem dX10_warm_75 : decode cX10_warm 75 = .ok (.ifCond .eq 26, 3) := by decide +kernel
theorem dX10_warm_78 : decode cX10_warm 78 = .ok (.aload_n 0, 1) := by decide +kernel
theorem dX10_warm_79 : decode cX10_warm 79 = .ok (.getfield 7, 3) := by decide +kernel
theorem dX10_warm_82 : decode cX10_warm 82 = .ok (.bipush 78, 2) := by decide +kernel
theorem dX10_warm_84 : decode cX10_warm 84 = .ok (.dup2, 1) := by decide +kernel
theorem dX10_warm_85 : decode cX10_warm 85 = .ok (.laload, 1) := by decide +kernel
theorem dX10_warm_86 : decode cX10_warm 86 = .ok (.lload_n 3, 1) := by decide +kernel
theorem dX10_warm_87 : decode cX10_warm 87 = .ok (.aload_n 0, 1) := by decide +kernel
theorem dX10_warm_88 : decode cX10_warm 88 = .ok (.getfield 7, 3) := by decide +kernel
theorem dX10_warm_91 : decode cX10_warm 91 = .ok (.bipush 78, 2) := by decide +kernel
theorem dX10_warm_93 : decode cX10_warm 93 = .ok (.laload, 1) := by decide +kernel
theorem dX10_warm_94 : decode cX10_warm 94 = .ok (.lsub, 1) := by decide +kernel
theorem dX10_warm_95 : decode cX10_warm 95 = .ok (.ldc2_w 125, 3) := by decide +kernel
theorem dX10_warm_98 : decode cX10_warm 98 = .ok (.ldiv, 1) := by decide +kernel
theorem dX10_warm_99 : decode cX10_warm 99 = .ok (.ladd, 1) := by decide +kernel
theorem dX10_warm_100 : decode cX10_warm 100 = .ok (.lastore, 1) := by decide +kernel
theorem dX10_warm_101 : decode cX10_warm 101 = .ok (.aload_n 0, 1) := by decide +kernel
theorem dX10_warm_102 : decode cX10_warm 102 = .ok (.getfield 7, 3) := by decide +kernel
theorem dX10_warm_105 : decode cX10_warm 105 = .ok (.bipush 78, 2) := by decide +kernel
theorem dX10_warm_107 : decode cX10_warm 107 = .ok (.laload, 1) := by decide +kernel
theorem dX10_warm_108 : decode cX10_warm 108 = .ok (.ldc2_w 127, 3) := by decide +kernel
theorem dX10_warm_111 : decode cX10_warm 111 = .ok (.lcmp, 1) := by decide +kernel
theorem dX10_warm_112 : decode cX10_warm 112 = .ok (.ifCond .le 46, 3) := by decide +kernel
theorem dX10_warm_115 : decode cX10_warm 115 = .ok (.aload_n 0, 1) := by decide +kernel
theorem dX10_warm_116 : decode cX10_warm 116 = .ok (.getfield 7, 3) := by decide +kernel
theorem dX10_warm_119 : decode cX10_warm 119 = .ok (.bipush 78, 2) := by decide +kernel
theorem dX10_warm_121 : decode cX10_warm 121 = .ok (.laload, 1) := by decide +kernel
theorem dX10_warm_122 : decode cX10_warm 122 = .ok (.lload_n 1, 1) := by decide +kernel
theorem dX10_warm_123 : decode cX10_warm 123 = .ok (.aload_n 0, 1) := by decide +kernel
theorem dX10_warm_124 : decode cX10_warm 124 = .ok (.getfield 7, 3) := by decide +kernel
theorem dX10_warm_127 : decode cX10_warm 127 = .ok (.bipush 74, 2) := by decide +kernel
theorem dX10_warm_129 : decode cX10_warm 129 = .ok (.laload, 1) := by decide +kernel
theorem dX10_warm_130 : decode cX10_warm 130 = .ok (.ldiv, 1) := by decide +kernel
theorem dX10_warm_131 : decode cX10_warm 131 = .ok (.lsub, 1) := by decide +kernel
theorem dX10_warm_132 : decode cX10_warm 132 = .ok (.lstore 5, 2) := by decide +kernel
theorem dX10_warm_134 : decode cX10_warm 134 = .ok (.aload_n 0, 1) := by decide +kernel
theorem dX10_warm_135 : decode cX10_warm 135 = .ok (.getfield 7, 3) := by decide +kernel
theorem dX10_warm_138 : decode cX10_warm 138 = .ok (.bipush 78, 2) := by decide +kernel
theorem dX10_warm_140 : decode cX10_warm 140 = .ok (.lload 5, 2) := by decide +kernel
theorem dX10_warm_142 : decode cX10_warm 142 = .ok (.ldc2_w 127, 3) := by decide +kernel
theorem dX10_warm_145 : decode cX10_warm 145 = .ok (.lcmp, 1) := by decide +kernel
theorem dX10_warm_146 : decode cX10_warm 146 = .ok (.ifCond .ge 9, 3) := by decide +kernel
theorem dX10_warm_149 : decode cX10_warm 149 = .ok (.ldc2_w 127, 3) := by decide +kernel
theorem dX10_warm_152 : decode cX10_warm 152 = .ok (.goto 5, 3) := by decide +kernel
theorem dX10_warm_155 : decode cX10_warm 155 = .ok (.lload 5, 2) := by decide +kernel
theorem dX10_warm_157 : decode cX10_warm 157 = .ok (.lastore, 1) := by decide +kernel
theorem dX10_warm_158 : decode cX10_warm 158 = .ok (.return_, 1) := by decide +kernel
set_option maxRecDepth 20000 in
theorem ggX10_blow_X10_isDoorOpen : GoodIn wsX10_blow wsX10_isDoorOpen := goodIn_r _ [7, 1, 8, 9, 10, 11, 12, 13, 14, 15, 16, 17] (by decide +kernel) (by decide +kernel)
set_option maxRecDepth 20000 in
theorem gX10_blow_X10_isDoorOpen : GoodIn wsX10_blow (wsV RX10 62 RX10 yX10_isDoorOpen wsX10_isDoorOpen) := goodIn_app (goodIn_of _ (by decide +kernel)) ggX10_blow_X10_isDoorOpen
theorem dX10_blow_0 : decode cX10_blow 0 = .ok (.aload_n 0, 1) := by decide +kernel
theorem dX10_blow_1 : decode cX10_blow 1 = .ok (.getfield 7, 3) := by decide +kernel
theorem dX10_blow_4 : decode cX10_blow 4 = .ok (.bipush 79, 2) := by decide +kernel
theorem dX10_blow_6 : decode cX10_blow 6 = .ok (.dup2, 1) := by decide +kernel
theorem dX10_blow_7 : decode cX10_blow 7 = .ok (.laload, 1) := by decide +kernel
theorem dX10_blow_8 : decode cX10_blow 8 = .ok (.aload_n 0, 1) := by decide +kernel
theorem dX10_blow_9 : decode cX10_blow 9 = .ok (.getfield 7, 3) := by decide +kernel
theorem dX10_blow_12 : decode cX10_blow 12 = .ok (.bipush 79, 2) := by decide +kernel
theorem dX10_blow_14 : decode cX10_blow 14 = .ok (.laload, 1) := by decide +kernel
theorem dX10_blow_15 : decode cX10_blow 15 = .ok (.aload_n 0, 1) := by decide +kernel
theorem dX10_blow_16 : decode cX10_blow 16 = .ok (.getfield 7, 3) := by decide +kernel
theorem dX10_blow_19 : decode cX10_blow 19 = .ok (.bipush 67, 2) := by decide +kernel
theorem dX10_blow_21 : decode cX10_blow 21 = .ok (.laload, 1) := by decide +kernel
theorem dX10_blow_22 : decode cX10_blow 22 = .ok (.lmul, 1) := by decide +kernel
theorem dX10_blow_23 : decode cX10_blow 23 = .ok (.ldc2_w 44, 3) := by decide +kernel
theorem dX10_blow_26 : decode cX10_blow 26 = .ok (.ldiv, 1) := by decide +kernel
theorem dX10_blow_27 : decode cX10_blow 27 = .ok (.lsub, 1) := by decide +kernel
theorem dX10_blow_28 : decode cX10_blow 28 = .ok (.lastore, 1) := by decide +kernel
theorem dX10_blow_29 : decode cX10_blow 29 = .ok (.aload_n 0, 1) := by decide +kernel
theorem dX10_blow_30 : decode cX10_blow 30 = .ok (.getfield 7, 3) := by decide +kernel
theorem dX10_blow_33 : decode cX10_blow 33 = .ok (.bipush 81, 2) := by decide +kernel
theorem dX10_blow_35 : decode cX10_blow 35 = .ok (.laload, 1) := by decide +kernel
theorem dX10_blow_36 : decode cX10_blow 36 = .ok (.lconst 1, 1) := by decide +kernel
theorem dX10_blow_37 : decode cX10_blow 37 = .ok (.lcmp, 1) := by decide +kernel
theorem dX10_blow_38 : decode cX10_blow 38 = .ok (.ifCond .ne 32, 3) := by decide +kernel
theorem dX10_blow_41 : decode cX10_blow 41 = .ok (.aload_n 0, 1) := by decide +kernel
theorem dX10_blow_42 : decode cX10_blow 42 = .ok (.getfield 7, 3) := by decide +kernel
theorem dX10_blow_45 : decode cX10_blow 45 = .ok (.bipush 79, 2) := by decide +kernel
theorem dX10_blow_47 : decode cX10_blow 47 = .ok (.dup2, 1) := by decide +kernel
theorem dX10_blow_48 : decode cX10_blow 48 = .ok (.laload, 1) := by decide +kernel
theorem dX10_blow_49 : decode cX10_blow 49 = .ok (.aload_n 0, 1) := by decide +kernel
theorem dX10_blow_50 : decode cX10_blow 50 = .ok (.getfield 7, 3) := by decide +kernel
theorem dX10_blow_53 : decode cX10_blow 53 = .ok (.bipush 79, 2) := by decide +kernel
theorem dX10_blow_55 : decode cX10_blow 55 = .ok (.laload, 1) := by decide +kernel
theorem dX10_blow_56 : decode cX10_blow 56 = .ok (.aload_n 0, 1) := by decide +kernel
theorem dX10_blow_57 : decode cX10_blow 57 = .ok (.getfield 7, 3) := by decide +kernel
theorem dX10_blow_60 : decode cX10_blow 60 = .ok (.bipush 66, 2) := by decide +kernel
theorem dX10_blow_62 : decode cX10_blow 62 = .ok (.laload, 1) := by decide +kernel
theorem dX10_blow_63 : decode cX10_blow 63 = .ok (.lmul, 1) := by decide +kernel
theorem dX10_blow_64 : decode cX10_blow 64 = .ok (.ldc2_w 44, 3) := by decide +kernel
theorem dX10_blow_67 : decode cX10_blow 67 = .ok (.ldiv, 1) := by decide +kernel
theorem dX10_blow_68 : decode cX10_blow 68 = .ok (.lsub, 1) := by decide +kernel
theorem dX10_blow_69 : decode cX10_blow 69 = .ok (.lastore, 1) := by decide +kernel
theorem dX10_blow_70 : decode cX10_blow 70 = .ok (.aload_n 0, 1) := by decide +kernel
theorem dX10_blow_71 : decode cX10_blow 71 = .ok (.invokevirtual 62, 3) := by decide +kernel
theorem dX10_blow_74 : decode cX10_blow 74 = .ok (.ifCond .eq 32, 3) := by decide +kernel
theorem dX10_blow_77 : decode cX10_blow 77 = .ok (.aload_n 0, 1) := by decide +kernel
theorem dX10_blow_78 : decode cX10_blow 78 = .ok (.getfield 7, 3) := by decide +kernel
theorem dX10_blow_81 : decode cX10_blow 81 = .ok (.bipush 79, 2) := by decide +kernel
theorem dX10_blow_83 : decode cX10_blow 83 = .ok (.dup2, 1) := by decide +kernel
theorem dX10_blow_84 : decode cX10_blow 84 = .ok (.laload, 1) := by decide +kernel
theorem dX10_blow_85 : decode cX10_blow 85 = .ok (.aload_n 0, 1) := by decide +kernel
theorem dX10_blow_86 : decode cX10_blow 86 = .ok (.getfield 7, 3) := by decide +kernel
theorem dX10_blow_89 : decode cX10_blow 89 = .ok (.bipush 79, 2) := by decide +kernel
theorem dX10_blow_91 : decode cX10_blow 91 = .ok (.laload, 1) := by decide +kernel
theorem dX10_blow_92 : decode cX10_blow 92 = .ok (.aload_n 0, 1) := by decide +kernel
theorem dX10_blow_93 : decode cX10_blow 93 = .ok (.getfield 7, 3) := by decide +kernel
theorem dX10_blow_96 : decode cX10_blow 96 = .ok (.bipush 68, 2) := by decide +kernel
theorem dX10_blow_98 : decode cX10_blow 98 = .ok (.laload, 1) := by decide +kernel
theorem dX10_blow_99 : decode cX10_blow 99 = .ok (.lmul, 1) := by decide +kernel
theorem dX10_blow_100 : decode cX10_blow 100 = .ok (.ldc2_w 44, 3) := by decide +kernel
theorem dX10_blow_103 : decode cX10_blow 103 = .ok (.ldiv, 1) := by decide +kernel
theorem dX10_blow_104 : decode cX10_blow 104 = .ok (.lsub, 1) := by decide +kernel
theorem dX10_blow_105 : decode cX10_blow 105 = .ok (.lastore, 1) := by decide +kernel
theorem dX10_blow_106 : decode cX10_blow 106 = .ok (.return_, 1) := by decide +kernel
theorem dX10_openVent_0 : decode cX10_openVent 0 = .ok (.aload_n 0, 1) := by decide +kernel
theorem dX10_openVent_1 : decode cX10_openVent 1 = .ok (.getfield 7, 3) := by decide +kernel
theorem dX10_openVent_4 : decode cX10_openVent 4 = .ok (.bipush 82, 2) := by decide +kernel
theorem dX10_openVent_6 : decode cX10_openVent 6 = .ok (.aload_n 0, 1) := by decide +kernel
theorem dX10_openVent_7 : decode cX10_openVent 7 = .ok (.getfield 7, 3) := by decide +kernel
theorem dX10_openVent_10 : decode cX10_openVent 10 = .ok (.bipush 81, 2) := by decide +kernel
theorem dX10_openVent_12 : decode cX10_openVent 12 = .ok (.laload, 1) := by decide +kernel
theorem dX10_openVent_13 : decode cX10_openVent 13 = .ok (.lconst 1, 1) := by decide +kernel
theorem dX10_openVent_14 : decode cX10_openVent 14 = .ok (.lcmp, 1) := by decide +kernel
theorem dX10_openVent_15 : decode cX10_openVent 15 = .ok (.ifCond .ne 13, 3) := by decide +kernel
theorem dX10_openVent_18 : decode cX10_openVent 18 = .ok (.aload_n 0, 1) := by decide +kernel
theorem dX10_openVent_19 : decode cX10_openVent 19 = .ok (.getfield 7, 3) := by decide +kernel
theorem dX10_openVent_22 : decode cX10_openVent 22 = .ok (.bipush 82, 2) := by decide +kernel
theorem dX10_openVent_24 : decode cX10_openVent 24 = .ok (.laload, 1) := by decide +kernel
theorem dX10_openVent_25 : decode cX10_openVent 25 = .ok (.goto 4, 3) := by decide +kernel
theorem dX10_openVent_28 : decode cX10_openVent 28 = .ok (.lconst 0, 1) := by decide +kernel
theorem dX10_openVent_29 : decode cX10_openVent 29 = .ok (.lastore, 1) := by decide +kernel
theorem dX10_openVent_30 : decode cX10_openVent 30 = .ok (.aload_n 0, 1) := by decide +kernel
theorem dX10_openVent_31 : decode cX10_openVent 31 = .ok (.getfield 7, 3) := by decide +kernel
theorem dX10_openVent_34 : decode cX10_openVent 34 = .ok (.bipush 81, 2) := by decide +kernel
theorem dX10_openVent_36 : decode cX10_openVent 36 = .ok (.lconst 1, 1) := by decide +kernel
theorem dX10_openVent_37 : decode cX10_openVent 37 = .ok (.lastore, 1) := by decide +kernel
theorem dX10_openVent_38 : decode cX10_openVent 38 = .ok (.return_, 1) := by decide +kernel
theorem dX10_shutVent_0 : decode cX10_shutVent 0 = .ok (.aload_n 0, 1) := by decide +kernel
theorem dX10_shutVent_1 : decode cX10_shutVent 1 = .ok (.getfield 7, 3) := by decide +kernel
theorem dX10_shutVent_4 : decode cX10_shutVent 4 = .ok (.bipush 81, 2) := by decide +kernel
theorem dX10_shutVent_6 : decode cX10_shutVent 6 = .ok (.lconst 0, 1) := by decide +kernel
theorem dX10_shutVent_7 : decode cX10_shutVent 7 = .ok (.lastore, 1) := by decide +kernel
theorem dX10_shutVent_8 : decode cX10_shutVent 8 = .ok (.aload_n 0, 1) := by decide +kernel
theorem dX10_shutVent_9 : decode cX10_shutVent 9 = .ok (.getfield 7, 3) := by decide +kernel
theorem dX10_shutVent_12 : decode cX10_shutVent 12 = .ok (.bipush 82, 2) := by decide +kernel
theorem dX10_shutVent_14 : decode cX10_shutVent 14 = .ok (.lconst 0, 1) := by decide +kernel
theorem dX10_shutVent_15 : decode cX10_shutVent 15 = .ok (.lastore, 1) := by decide +kernel
theorem dX10_shutVent_16 : decode cX10_shutVent 16 = .ok (.return_, 1) := by decide +kernel
set_option maxRecDepth 20000 in
theorem ggX10_turnVent_X10_concentration : GoodIn wsX10_turnVent wsX10_concentration := goodIn_r _ [7, 1, 2, 16, 17, 18, 19, 20, 21, 22, 23, 24, 25] (by decide +kernel) (by decide +kernel)
set_option maxRecDepth 20000 in
theorem gX10_turnVent_X10_concentration : GoodIn wsX10_turnVent (wsV RX10 129 RX10 yX10_concentration wsX10_concentration) := goodIn_app (goodIn_of _ (by decide +kernel)) ggX10_turnVent_X10_concentration
set_option maxRecDepth 20000 in
theorem ggX10_turnVent_X10_shutVent : GoodIn wsX10_turnVent wsX10_shutVent := goodIn_r _ [11, 1, 16, 17, 18, 19, 20, 21, 22, 23, 24, 25] (by decide +kernel) (by decide +kernel)
set_option maxRecDepth 20000 in
theorem gX10_turnVent_X10_shutVent : GoodIn wsX10_turnVent (wsV RX10 132 RX10 yX10_shutVent wsX10_shutVent) := goodIn_app (goodIn_of _ (by decide +kernel)) ggX10_turnVent_X10_shutVent
set_option maxRecDepth 20000 in
theorem ggX10_turnVent_X10_openVent : GoodIn wsX10_turnVent wsX10_openVent := goodIn_r _ [15, 1, 16, 17, 18, 19, 20, 21, 22, 23, 24, 25] (by decide +kernel) (by decide +kernel)
set_option maxRecDepth 20000 in
theorem gX10_turnVent_X10_openVent : GoodIn wsX10_turnVent (wsV RX10 135 RX10 yX10_openVent wsX10_openVent) := goodIn_app (goodIn_of _ (by decide +kernel)) ggX10_turnVent_X10_openVent
theorem dX10_turnVent_0 : decode cX10_turnVent 0 = .ok (.aload_n 0, 1) := by decide +kernel
theorem dX10_turnVent_1 : decode cX10_turnVent 1 = .ok (.invokevirtual 129, 3) := by decide +kernel
theorem dX10_turnVent_4 : decode cX10_turnVent 4 = .ok (.istore_n 1, 1) := by decide +kernel
theorem dX10_turnVent_5 : decode cX10_turnVent 5 = .ok (.aload_n 0, 1) := by decide +kernel
theorem dX10_turnVent_6 : decode cX10_turnVent 6 = .ok (.getfield 7, 3) := by decide +kernel
theorem dX10_turnVent_9 : decode cX10_turnVent 9 = .ok (.bipush 80, 2) := by decide +kernel
theorem dX10_turnVent_11 : decode cX10_turnVent 11 = .ok (.laload, 1) := by decide +kernel
theorem dX10_turnVent_12 : decode cX10_turnVent 12 = .ok (.lconst 1, 1) := by decide +kernel
theorem dX10_turnVent_13 : decode cX10_turnVent 13 = .ok (.lcmp, 1) := by decide +kernel
theorem dX10_turnVent_14 : decode cX10_turnVent 14 = .ok (.ifCond .ne 10, 3) := by decide +kernel
theorem dX10_turnVent_17 : decode cX10_turnVent 17 = .ok (.aload_n 0, 1) := by decide +kernel
theorem dX10_turnVent_18 : decode cX10_turnVent 18 = .ok (.invokevirtual 132, 3) := by decide +kernel
theorem dX10_turnVent_21 : decode cX10_turnVent 21 = .ok (.goto 102, 3) := by decide +kernel
theorem dX10_turnVent_24 : decode cX10_turnVent 24 = .ok (.aload_n 0, 1) := by decide +kernel
theorem dX10_turnVent_25 : decode cX10_turnVent 25 = .ok (.getfield 7, 3) := by decide +kernel
theorem dX10_turnVent_28 : decode cX10_turnVent 28 = .ok (.bipush 80, 2) := by decide +kernel
theorem dX10_turnVent_30 : decode cX10_turnVent 30 = .ok (.laload, 1) := by decide +kernel
theorem dX10_turnVent_31 : decode cX10_turnVent 31 = .ok (.ldc2_w 56, 3) := by decide +kernel
theorem dX10_turnVent_34 : decode cX10_turnVent 34 = .ok (.lcmp, 1) := by decide +kernel
theorem dX10_turnVent_35 : decode cX10_turnVent 35 = .ok (.ifCond .ne 10, 3) := by decide +kernel
theorem dX10_turnVent_38 : decode cX10_turnVent 38 = .ok (.aload_n 0, 1) := by decide +kernel
theorem dX10_turnVent_39 : decode cX10_turnVent 39 = .ok (.invokevirtual 135, 3) := by decide +kernel
theorem dX10_turnVent_42 : decode cX10_turnVent 42 = .ok (.goto 81, 3) := by decide +kernel
theorem dX10_turnVent_45 : decode cX10_turnVent 45 = .ok (.aload_n 0, 1) := by decide +kernel
theorem dX10_turnVent_46 : decode cX10_turnVent 46 = .ok (.getfield 7, 3) := by decide +kernel
theorem dX10_turnVent_49 : decode cX10_turnVent 49 = .ok (.bipush 81, 2) := by decide +kernel
theorem dX10_turnVent_51 : decode cX10_turnVent 51 = .ok (.laload, 1) := by decide +kernel
theorem dX10_turnVent_52 : decode cX10_turnVent 52 = .ok (.lconst 0, 1) := by decide +kernel
theorem dX10_turnVent_53 : decode cX10_turnVent 53 = .ok (.lcmp, 1) := by decide +kernel
theorem dX10_turnVent_54 : decode cX10_turnVent 54 = .ok (.ifCond .ne 23, 3) := by decide +kernel
theorem dX10_turnVent_57 : decode cX10_turnVent 57 = .ok (.iload_n 1, 1) := by decide +kernel
theorem dX10_turnVent_58 : decode cX10_turnVent 58 = .ok (.i2l, 1) := by decide +kernel
theorem dX10_turnVent_59 : decode cX10_turnVent 59 = .ok (.aload_n 0, 1) := by decide +kernel
theorem dX10_turnVent_60 : decode cX10_turnVent 60 = .ok (.getfield 7, 3) := by decide +kernel
theorem dX10_turnVent_63 : decode cX10_turnVent 63 = .ok (.bipush 69, 2) := by decide +kernel
theorem dX10_turnVent_65 : decode cX10_turnVent 65 = .ok (.laload, 1) := by decide +kernel
theorem dX10_turnVent_66 : decode cX10_turnVent 66 = .ok (.lcmp, 1) := by decide +kernel
theorem dX10_turnVent_67 : decode cX10_turnVent 67 = .ok (.ifCond .lt 56, 3) := by decide +kernel
theorem dX10_turnVent_70 : decode cX10_turnVent 70 = .ok (.aload_n 0, 1) := by decide +kernel
theorem dX10_turnVent_71 : decode cX10_turnVent 71 = .ok (.invokevirtual 135, 3) := by decide +kernel
theorem dX10_turnVent_74 : decode cX10_turnVent 74 = .ok (.goto 49, 3) := by decide +kernel
theorem dX10_turnVent_77 : decode cX10_turnVent 77 = .ok (.aload_n 0, 1) := by decide +kernel
theorem dX10_turnVent_78 : decode cX10_turnVent 78 = .ok (.getfield 7, 3) := by decide +kernel
theorem dX10_turnVent_81 : decode cX10_turnVent 81 = .ok (.bipush 82, 2) := by decide +kernel
theorem dX10_turnVent_83 : decode cX10_turnVent 83 = .ok (.dup2, 1) := by decide +kernel
theorem dX10_turnVent_84 : decode cX10_turnVent 84 = .ok (.laload, 1) := by decide +kernel
theorem dX10_turnVent_85 : decode cX10_turnVent 85 = .ok (.lconst 1, 1) := by decide +kernel
theorem dX10_turnVent_86 : decode cX10_turnVent 86 = .ok (.ladd, 1) := by decide +kernel
theorem dX10_turnVent_87 : decode cX10_turnVent 87 = .ok (.lastore, 1) := by decide +kernel
theorem dX10_turnVent_88 : decode cX10_turnVent 88 = .ok (.iload_n 1, 1) := by decide +kernel
theorem dX10_turnVent_89 : decode cX10_turnVent 89 = .ok (.i2l, 1) := by decide +kernel
theorem dX10_turnVent_90 : decode cX10_turnVent 90 = .ok (.aload_n 0, 1) := by decide +kernel
theorem dX10_turnVent_91 : decode cX10_turnVent 91 = .ok (.getfield 7, 3) := by decide +kernel
theorem dX10_turnVent_94 : decode cX10_turnVent 94 = .ok (.bipush 70, 2) := by decide +kernel
theorem dX10_turnVent_96 : decode cX10_turnVent 96 = .ok (.laload, 1) := by decide +kernel
theorem dX10_turnVent_97 : decode cX10_turnVent 97 = .ok (.lcmp, 1) := by decide +kernel
theorem dX10_turnVent_98 : decode cX10_turnVent 98 = .ok (.ifCond .gt 25, 3) := by decide +kernel
theorem dX10_turnVent_101 : decode cX10_turnVent 101 = .ok (.aload_n 0, 1) := by decide +kernel
theorem dX10_turnVent_102 : decode cX10_turnVent 102 = .ok (.getfield 7, 3) := by decide +kernel
theorem dX10_turnVent_105 : decode cX10_turnVent 105 = .ok (.bipush 82, 2) := by decide +kernel
theorem dX10_turnVent_107 : decode cX10_turnVent 107 = .ok (.laload, 1) := by decide +kernel
theorem dX10_turnVent_108 : decode cX10_turnVent 108 = .ok (.aload_n 0, 1) := by decide +kernel
theorem dX10_turnVent_109 : decode cX10_turnVent 109 = .ok (.getfield 7, 3) := by decide +kernel
theorem dX10_turnVent_112 : decode cX10_turnVent 112 = .ok (.bipush 71, 2) := by decide +kernel
theorem dX10_turnVent_114 : decode cX10_turnVent 114 = .ok (.laload, 1) := by decide +kernel
theorem dX10_turnVent_115 : decode cX10_turnVent 115 = .ok (.lcmp, 1) := by decide +kernel
theorem dX10_turnVent_116 : decode cX10_turnVent 116 = .ok (.ifCond .lt 7, 3) := by decide +kernel
theorem dX10_turnVent_119 : decode cX10_turnVent 119 = .ok (.aload_n 0, 1) := by decide +kernel
theorem dX10_turnVent_120 : decode cX10_turnVent 120 = .ok (.invokevirtual 132, 3) := by decide +kernel
theorem dX10_turnVent_123 : decode cX10_turnVent 123 = .ok (.return_, 1) := by decide +kernel
set_option maxRecDepth 20000 in
theorem ggX10_makeMinute_X10_goOff : GoodIn wsX10_makeMinute wsX10_goOff := goodIn_r _ [6, 1, 7, 8, 9, 5, 10, 11, 12, 13, 14, 15, 16, 17, 18, 19, 20, 21, 22, 23, 24, 66, 67, 68, 69, 70, 71, 72, 73, 74, 75] (by decide +kernel) (by decide +kernel)
set_option maxRecDepth 20000 in
theorem gX10_makeMinute_X10_goOff : GoodIn wsX10_makeMinute (wsV RX10 138 RX10 yX10_goOff wsX10_goOff) := goodIn_app (goodIn_of _ (by decide +kernel)) ggX10_makeMinute_X10_goOff
set_option maxRecDepth 20000 in
theorem ggX10_makeMinute_X10_warm : GoodIn wsX10_makeMinute wsX10_warm := goodIn_r _ [28, 1, 29, 30, 31, 32, 33, 5, 34, 35, 36, 37, 38, 39, 66, 67, 68, 69, 70, 71, 72, 73, 74, 75] (by decide +kernel) (by decide +kernel)
set_option maxRecDepth 20000 in
theorem gX10_makeMinute_X10_warm : GoodIn wsX10_makeMinute (wsV RX10 141 RX10 yX10_warm wsX10_warm) := goodIn_app (goodIn_of _ (by decide +kernel)) ggX10_makeMinute_X10_warm
set_option maxRecDepth 20000 in
theorem ggX10_makeMinute_X10_blow : GoodIn wsX10_makeMinute wsX10_blow := goodIn_r _ [43, 1, 44, 36, 37, 38, 5, 39, 66, 67, 68, 69, 70, 71, 72, 73, 74, 75] (by decide +kernel) (by decide +kernel)
set_option maxRecDepth 20000 in
theorem gX10_makeMinute_X10_blow : GoodIn wsX10_makeMinute (wsV RX10 145 RX10 yX10_blow wsX10_blow) := goodIn_app (goodIn_of _ (by decide +kernel)) ggX10_makeMinute_X10_blow
set_option maxRecDepth 20000 in
theorem ggX10_makeMinute_X10_turnVent : GoodIn wsX10_makeMinute wsX10_turnVent := goodIn_r _ [48, 1, 49, 50, 51, 52, 5, 53, 54, 55, 56, 57, 58, 59, 60, 61, 66, 67, 68, 69, 70, 71, 72, 73, 74, 75] (by decide +kernel) (by decide +kernel)
set_option maxRecDepth 20000 in
theorem gX10_makeMinute_X10_turnVent : GoodIn wsX10_makeMinute (wsV RX10 148 RX10 yX10_turnVent wsX10_turnVent) := goodIn_app (goodIn_of _ (by decide +kernel)) ggX10_makeMinute_X10_turnVent
set_option maxRecDepth 20000 in
theorem ggX10_makeMinute_X10_isDoorOpen : GoodIn wsX10_makeMinute wsX10_isDoorOpen := goodIn_r _ [39, 1, 66, 67, 68, 69, 70, 71, 72, 73, 74, 75] (by decide +kernel) (by decide +kernel)
set_option maxRecDepth 20000 in
theorem gX10_makeMinute_X10_isDoorOpen : GoodIn wsX10_makeMinute (wsV RX10 62 RX10 yX10_isDoorOpen wsX10_isDoorOpen) := goodIn_app (goodIn_of _ (by decide +kernel)) ggX10_makeMinute_X10_isDoorOpen
set_option maxRecDepth 20000 in
theorem ggX10_makeMinute_X10_concentration : GoodIn wsX10_makeMinute wsX10_concentration := goodIn_r _ [53, 1, 49, 66, 67, 68, 69, 70, 71, 72, 73, 74, 75] (by decide +kernel) (by decide +kernel)
set_option maxRecDepth 20000 in
theorem gX10_makeMinute_X10_concentration : GoodIn wsX10_makeMinute (wsV RX10 129 RX10 yX10_concentration wsX10_concentration) := goodIn_app (goodIn_of _ (by decide +kernel)) ggX10_makeMinute_X10_concentration
set_option maxRecDepth 20000 in
theorem ggX10_makeMinute_X10_isAway : GoodIn wsX10_makeMinute wsX10_isAway := goodIn_r _ [65, 1, 66, 67, 68, 69, 70, 71, 72, 73, 74, 75] (by decide +kernel) (by decide +kernel)
set_option maxRecDepth 20000 in
theorem gX10_makeMinute_X10_isAway : GoodIn wsX10_makeMinute (wsV RX10 106 RX10 yX10_isAway wsX10_isAway) := goodIn_app (goodIn_of _ (by decide +kernel)) ggX10_makeMinute_X10_isAway
theorem dX10_makeMinute_0 : decode cX10_makeMinute 0 = .ok (.aload_n 0, 1) := by decide +kernel
theorem dX10_makeMinute_1 : decode cX10_makeMinute 1 = .ok (.aload_n 0, 1) := by decide +kernel
theorem dX10_makeMinute_2 : decode cX10_makeMinute 2 = .ok (.invokevirtual 138, 3) := by decide +kernel
theorem dX10_makeMinute_5 : decode cX10_makeMinute 5 = .ok (.invokevirtual 141, 3) := by decide +kernel
theorem dX10_makeMinute_8 : decode cX10_makeMinute 8 = .ok (.aload_n 0, 1) := by decide +kernel
theorem dX10_makeMinute_9 : decode cX10_makeMinute 9 = .ok (.invokevirtual 145, 3) := by decide +kernel
theorem dX10_makeMinute_12 : decode cX10_makeMinute 12 = .ok (.aload_n 0, 1) := by decide +kernel
theorem dX10_makeMinute_13 : decode cX10_makeMinute 13 = .ok (.invokevirtual 148, 3) := by decide +kernel
theorem dX10_makeMinute_16 : decode cX10_makeMinute 16 = .ok (.aload_n 0, 1) := by decide +kernel
theorem dX10_makeMinute_17 : decode cX10_makeMinute 17 = .ok (.getfield 7, 3) := by decide +kernel
theorem dX10_makeMinute_20 : decode cX10_makeMinute 20 = .ok (.bipush 87, 2) := by decide +kernel
theorem dX10_makeMinute_22 : decode cX10_makeMinute 22 = .ok (.dup2, 1) := by decide +kernel
theorem dX10_makeMinute_23 : decode cX10_makeMinute 23 = .ok (.laload, 1) := by decide +kernel
theorem dX10_makeMinute_24 : decode cX10_makeMinute 24 = .ok (.aload_n 0, 1) := by decide +kernel
theorem dX10_makeMinute_25 : decode cX10_makeMinute 25 = .ok (.invokevirtual 62, 3) := by decide +kernel
theorem dX10_makeMinute_28 : decode cX10_makeMinute 28 = .ok (.ifCond .eq 23, 3) := by decide +kernel
theorem dX10_makeMinute_31 : decode cX10_makeMinute 31 = .ok (.aload_n 0, 1) := by decide +kernel
theorem dX10_makeMinute_32 : decode cX10_makeMinute 32 = .ok (.invokevirtual 129, 3) := by decide +kernel
theorem dX10_makeMinute_35 : decode cX10_makeMinute 35 = .ok (.i2l, 1) := by decide +kernel
theorem dX10_makeMinute_36 : decode cX10_makeMinute 36 = .ok (.aload_n 0, 1) := by decide +kernel
theorem dX10_makeMinute_37 : decode cX10_makeMinute 37 = .ok (.getfield 7, 3) := by decide +kernel
theorem dX10_makeMinute_40 : decode cX10_makeMinute 40 = .ok (.bipush 72, 2) := by decide +kernel
theorem dX10_makeMinute_42 : decode cX10_makeMinute 42 = .ok (.laload, 1) := by decide +kernel
theorem dX10_makeMinute_43 : decode cX10_makeMinute 43 = .ok (.lcmp, 1) := by decide +kernel
theorem dX10_makeMinute_44 : decode cX10_makeMinute 44 = .ok (.ifCond .lt 7, 3) := by decide +kernel
theorem dX10_makeMinute_47 : decode cX10_makeMinute 47 = .ok (.lconst 1, 1) := by decide +kernel
theorem dX10_makeMinute_48 : decode cX10_makeMinute 48 = .ok (.goto 4, 3) := by decide +kernel
theorem dX10_makeMinute_51 : decode cX10_makeMinute 51 = .ok (.lconst 0, 1) := by decide +kernel
theorem dX10_makeMinute_52 : decode cX10_makeMinute 52 = .ok (.ladd, 1) := by decide +kernel
theorem dX10_makeMinute_53 : decode cX10_makeMinute 53 = .ok (.lastore, 1) := by decide +kernel
theorem dX10_makeMinute_54 : decode cX10_makeMinute 54 = .ok (.aload_n 0, 1) := by decide +kernel
theorem dX10_makeMinute_55 : decode cX10_makeMinute 55 = .ok (.getfield 7, 3) := by decide +kernel
theorem dX10_makeMinute_58 : decode cX10_makeMinute 58 = .ok (.bipush 77, 2) := by decide +kernel
theorem dX10_makeMinute_60 : decode cX10_makeMinute 60 = .ok (.dup2, 1) := by decide +kernel
theorem dX10_makeMinute_61 : decode cX10_makeMinute 61 = .ok (.laload, 1) := by decide +kernel
theorem dX10_makeMinute_62 : decode cX10_makeMinute 62 = .ok (.lconst 1, 1) := by decide +kernel
theorem dX10_makeMinute_63 : decode cX10_makeMinute 63 = .ok (.ladd, 1) := by decide +kernel
theorem dX10_makeMinute_64 : decode cX10_makeMinute 64 = .ok (.lastore, 1) := by decide +kernel
theorem dX10_makeMinute_65 : decode cX10_makeMinute 65 = .ok (.aload_n 0, 1) := by decide +kernel
theorem dX10_makeMinute_66 : decode cX10_makeMinute 66 = .ok (.invokevirtual 106, 3) := by decide +kernel
theorem dX10_makeMinute_69 : decode cX10_makeMinute 69 = .ok (.ifCond .eq 55, 3) := by decide +kernel
theorem dX10_makeMinute_72 : decode cX10_makeMinute 72 = .ok (.aload_n 0, 1) := by decide +kernel
theorem dX10_makeMinute_73 : decode cX10_makeMinute 73 = .ok (.getfield 7, 3) := by decide +kernel
theorem dX10_makeMinute_76 : decode cX10_makeMinute 76 = .ok (.bipush 85, 2) := by decide +kernel
theorem dX10_makeMinute_78 : decode cX10_makeMinute 78 = .ok (.dup2, 1) := by decide +kernel
theorem dX10_makeMinute_79 : decode cX10_makeMinute 79 = .ok (.laload, 1) := by decide +kernel
theorem dX10_makeMinute_80 : decode cX10_makeMinute 80 = .ok (.lconst 1, 1) := by decide +kernel
theorem dX10_makeMinute_81 : decode cX10_makeMinute 81 = .ok (.ladd, 1) := by decide +kernel
theorem dX10_makeMinute_82 : decode cX10_makeMinute 82 = .ok (.lastore, 1) := by decide +kernel
theorem dX10_makeMinute_83 : decode cX10_makeMinute 83 = .ok (.aload_n 0, 1) := by decide +kernel
theorem dX10_makeMinute_84 : decode cX10_makeMinute 84 = .ok (.getfield 7, 3) := by decide +kernel
theorem dX10_makeMinute_87 : decode cX10_makeMinute 87 = .ok (.bipush 86, 2) := by decide +kernel
theorem dX10_makeMinute_89 : decode cX10_makeMinute 89 = .ok (.aload_n 0, 1) := by decide +kernel
theorem dX10_makeMinute_90 : decode cX10_makeMinute 90 = .ok (.getfield 7, 3) := by decide +kernel
theorem dX10_makeMinute_93 : decode cX10_makeMinute 93 = .ok (.bipush 85, 2) := by decide +kernel
theorem dX10_makeMinute_95 : decode cX10_makeMinute 95 = .ok (.laload, 1) := by decide +kernel
theorem dX10_makeMinute_96 : decode cX10_makeMinute 96 = .ok (.aload_n 0, 1) := by decide +kernel
theorem dX10_makeMinute_97 : decode cX10_makeMinute 97 = .ok (.getfield 7, 3) := by decide +kernel
theorem dX10_makeMinute_100 : decode cX10_makeMinute 100 = .ok (.bipush 40, 2) := by decide +kernel
theorem dX10_makeMinute_102 : decode cX10_makeMinute 102 = .ok (.iconst 2, 1) := by decide +kernel
theorem dX10_makeMinute_103 : decode cX10_makeMinute 103 = .ok (.aload_n 0, 1) := by decide +kernel
theorem dX10_makeMinute_104 : decode cX10_makeMinute 104 = .ok (.getfield 7, 3) := by decide +kernel
theorem dX10_makeMinute_107 : decode cX10_makeMinute 107 = .ok (.bipush 84, 2) := by decide +kernel
theorem dX10_makeMinute_109 : decode cX10_makeMinute 109 = .ok (.laload, 1) := by decide +kernel
theorem dX10_makeMinute_110 : decode cX10_makeMinute 110 = .ok (.l2i, 1) := by decide +kernel
theorem dX10_makeMinute_111 : decode cX10_makeMinute 111 = .ok (.imul, 1) := by decide +kernel
theorem dX10_makeMinute_112 : decode cX10_makeMinute 112 = .ok (.iadd, 1) := by decide +kernel
theorem dX10_makeMinute_113 : decode cX10_makeMinute 113 = .ok (.laload, 1) := by decide +kernel
theorem dX10_makeMinute_114 : decode cX10_makeMinute 114 = .ok (.lcmp, 1) := by decide +kernel
theorem dX10_makeMinute_115 : decode cX10_makeMinute 115 = .ok (.ifCond .ne 7, 3) := by decide +kernel
theorem dX10_makeMinute_118 : decode cX10_makeMinute 118 = .ok (.lconst 0, 1) := by decide +kernel
theorem dX10_makeMinute_119 : decode cX10_makeMinute 119 = .ok (.goto 4, 3) := by decide +kernel
theorem dX10_makeMinute_122 : decode cX10_makeMinute 122 = .ok (.lconst 1, 1) := by decide +kernel
theorem dX10_makeMinute_123 : decode cX10_makeMinute 123 = .ok (.lastore, 1) := by decide +kernel
theorem dX10_makeMinute_124 : decode cX10_makeMinute 124 = .ok (.return_, 1) := by decide +kernel
set_option maxRecDepth 20000 in
theorem ggX10_pass_X10_in : GoodIn wsX10_pass wsX10_in := goodIn_r _ [7] (by decide +kernel) (by decide +kernel)
set_option maxRecDepth 20000 in
theorem gX10_pass_X10_in : GoodIn wsX10_pass (va_wsS RX10 52 yX10_in wsX10_in) := goodIn_app (goodIn_of _ (by decide +kernel)) ggX10_pass_X10_in
set_option maxRecDepth 20000 in
theorem ggX10_pass_X10_isAway : GoodIn wsX10_pass wsX10_isAway := goodIn_r _ [11, 2, 74, 75, 76, 77, 78, 79, 80, 81, 82, 83] (by decide +kernel) (by decide +kernel)
set_option maxRecDepth 20000 in
theorem gX10_pass_X10_isAway : GoodIn wsX10_pass (wsV RX10 106 RX10 yX10_isAway wsX10_isAway) := goodIn_app (goodIn_of _ (by decide +kernel)) ggX10_pass_X10_isAway
set_option maxRecDepth 20000 in
theorem ggX10_pass_X10_makeMinute : GoodIn wsX10_pass wsX10_makeMinute := goodIn_r _ [15, 2, 16, 17, 18, 6, 19, 20, 21, 22, 23, 24, 25, 26, 27, 28, 29, 30, 31, 32, 33, 34, 35, 36, 37, 38, 39, 40, 41, 42, 43, 44, 45, 46, 47, 48, 49, 50, 51, 52, 53, 54, 55, 56, 1, 57, 58, 59, 60, 61, 62, 63, 64, 65, 66, 67, 68, 69, 70, 71, 72, 73, 8, 9, 10, 11, 74, 75, 76, 77, 78, 79, 80, 81, 82, 83] (by decide +kernel) (by decide +kernel)
set_option maxRecDepth 20000 in
theorem gX10_pass_X10_makeMinute : GoodIn wsX10_pass (wsV RX10 151 RX10 yX10_makeMinute wsX10_makeMinute) := goodIn_app (goodIn_of _ (by decide +kernel)) ggX10_pass_X10_makeMinute
theorem dX10_pass_0 : decode cX10_pass 0 = .ok (.iload_n 1, 1) := by decide +kernel
theorem dX10_pass_1 : decode cX10_pass 1 = .ok (.i2l, 1) := by decide +kernel
theorem dX10_pass_2 : decode cX10_pass 2 = .ok (.lconst 1, 1) := by decide +kernel
theorem dX10_pass_3 : decode cX10_pass 3 = .ok (.ldc2_w 44, 3) := by decide +kernel
theorem dX10_pass_6 : decode cX10_pass 6 = .ok (.invokestatic 52, 3) := by decide +kernel
theorem dX10_pass_9 : decode cX10_pass 9 = .ok (.ifCond .ne 6, 3) := by decide +kernel
theorem dX10_pass_12 : decode cX10_pass 12 = .ok (.bipush (-2), 2) := by decide +kernel
theorem dX10_pass_14 : decode cX10_pass 14 = .ok (.ireturn, 1) := by decide +kernel
theorem dX10_pass_15 : decode cX10_pass 15 = .ok (.aload_n 0, 1) := by decide +kernel
theorem dX10_pass_16 : decode cX10_pass 16 = .ok (.getfield 7, 3) := by decide +kernel
theorem dX10_pass_19 : decode cX10_pass 19 = .ok (.bipush 77, 2) := by decide +kernel
theorem dX10_pass_21 : decode cX10_pass 21 = .ok (.laload, 1) := by decide +kernel
theorem dX10_pass_22 : decode cX10_pass 22 = .ok (.iload_n 1, 1) := by decide +kernel
theorem dX10_pass_23 : decode cX10_pass 23 = .ok (.i2l, 1) := by decide +kernel
theorem dX10_pass_24 : decode cX10_pass 24 = .ok (.ladd, 1) := by decide +kernel
theorem dX10_pass_25 : decode cX10_pass 25 = .ok (.ldc2_w 93, 3) := by decide +kernel
theorem dX10_pass_28 : decode cX10_pass 28 = .ok (.lcmp, 1) := by decide +kernel
theorem dX10_pass_29 : decode cX10_pass 29 = .ok (.ifCond .le 6, 3) := by decide +kernel
theorem dX10_pass_32 : decode cX10_pass 32 = .ok (.bipush (-5), 2) := by decide +kernel
theorem dX10_pass_34 : decode cX10_pass 34 = .ok (.ireturn, 1) := by decide +kernel
theorem dX10_pass_35 : decode cX10_pass 35 = .ok (.iconst 0, 1) := by decide +kernel
theorem dX10_pass_36 : decode cX10_pass 36 = .ok (.istore_n 2, 1) := by decide +kernel
theorem dX10_pass_37 : decode cX10_pass 37 = .ok (.iconst 0, 1) := by decide +kernel
theorem dX10_pass_38 : decode cX10_pass 38 = .ok (.istore_n 3, 1) := by decide +kernel
theorem dX10_pass_39 : decode cX10_pass 39 = .ok (.iload_n 3, 1) := by decide +kernel
theorem dX10_pass_40 : decode cX10_pass 40 = .ok (.iload_n 1, 1) := by decide +kernel
theorem dX10_pass_41 : decode cX10_pass 41 = .ok (.if_icmp .ge 28, 3) := by decide +kernel
theorem dX10_pass_44 : decode cX10_pass 44 = .ok (.iload_n 2, 1) := by decide +kernel
theorem dX10_pass_45 : decode cX10_pass 45 = .ok (.aload_n 0, 1) := by decide +kernel
theorem dX10_pass_46 : decode cX10_pass 46 = .ok (.invokevirtual 106, 3) := by decide +kernel
theorem dX10_pass_49 : decode cX10_pass 49 = .ok (.ifCond .eq 7, 3) := by decide +kernel
theorem dX10_pass_52 : decode cX10_pass 52 = .ok (.iconst 1, 1) := by decide +kernel
theorem dX10_pass_53 : decode cX10_pass 53 = .ok (.goto 4, 3) := by decide +kernel
theorem dX10_pass_56 : decode cX10_pass 56 = .ok (.iconst 0, 1) := by decide +kernel
theorem dX10_pass_57 : decode cX10_pass 57 = .ok (.iadd, 1) := by decide +kernel
theorem dX10_pass_58 : decode cX10_pass 58 = .ok (.istore_n 2, 1) := by decide +kernel
theorem dX10_pass_59 : decode cX10_pass 59 = .ok (.aload_n 0, 1) := by decide +kernel
theorem dX10_pass_60 : decode cX10_pass 60 = .ok (.invokevirtual 151, 3) := by decide +kernel
theorem dX10_pass_63 : decode cX10_pass 63 = .ok (.iinc 3 1, 3) := by decide +kernel
theorem dX10_pass_66 : decode cX10_pass 66 = .ok (.goto (-27), 3) := by decide +kernel
theorem dX10_pass_69 : decode cX10_pass 69 = .ok (.iload_n 2, 1) := by decide +kernel
theorem dX10_pass_70 : decode cX10_pass 70 = .ok (.ireturn, 1) := by decide +kernel
set_option maxRecDepth 20000 in
theorem ggX10_setMode_X10_shutVent : GoodIn wsX10_setMode wsX10_shutVent := goodIn_r _ [6, 1, 11, 12, 13, 14, 15, 16, 17, 18, 19, 20] (by decide +kernel) (by decide +kernel)
set_option maxRecDepth 20000 in
theorem gX10_setMode_X10_shutVent : GoodIn wsX10_setMode (wsV RX10 132 RX10 yX10_shutVent wsX10_shutVent) := goodIn_app (goodIn_of _ (by decide +kernel)) ggX10_setMode_X10_shutVent
set_option maxRecDepth 20000 in
theorem ggX10_setMode_X10_openVent : GoodIn wsX10_setMode wsX10_openVent := goodIn_r _ [10, 1, 11, 12, 13, 14, 15, 16, 17, 18, 19, 20] (by decide +kernel) (by decide +kernel)
set_option maxRecDepth 20000 in
theorem gX10_setMode_X10_openVent : GoodIn wsX10_setMode (wsV RX10 135 RX10 yX10_openVent wsX10_openVent) := goodIn_app (goodIn_of _ (by decide +kernel)) ggX10_setMode_X10_openVent
theorem dX10_setMode_0 : decode cX10_setMode 0 = .ok (.aload_n 0, 1) := by decide +kernel
theorem dX10_setMode_1 : decode cX10_setMode 1 = .ok (.getfield 7, 3) := by decide +kernel
theorem dX10_setMode_4 : decode cX10_setMode 4 = .ok (.bipush 80, 2) := by decide +kernel
theorem dX10_setMode_6 : decode cX10_setMode 6 = .ok (.iload_n 1, 1) := by decide +kernel
theorem dX10_setMode_7 : decode cX10_setMode 7 = .ok (.i2l, 1) := by decide +kernel
theorem dX10_setMode_8 : decode cX10_setMode 8 = .ok (.lastore, 1) := by decide +kernel
theorem dX10_setMode_9 : decode cX10_setMode 9 = .ok (.iload_n 1, 1) := by decide +kernel
theorem dX10_setMode_10 : decode cX10_setMode 10 = .ok (.iconst 1, 1) := by decide +kernel
theorem dX10_setMode_11 : decode cX10_setMode 11 = .ok (.if_icmp .ne 10, 3) := by decide +kernel
theorem dX10_setMode_14 : decode cX10_setMode 14 = .ok (.aload_n 0, 1) := by decide +kernel
theorem dX10_setMode_15 : decode cX10_setMode 15 = .ok (.invokevirtual 132, 3) := by decide +kernel
theorem dX10_setMode_18 : decode cX10_setMode 18 = .ok (.goto 12, 3) := by decide +kernel
theorem dX10_setMode_21 : decode cX10_setMode 21 = .ok (.iload_n 1, 1) := by decide +kernel
theorem dX10_setMode_22 : decode cX10_setMode 22 = .ok (.iconst 2, 1) := by decide +kernel
theorem dX10_setMode_23 : decode cX10_setMode 23 = .ok (.if_icmp .ne 7, 3) := by decide +kernel
theorem dX10_setMode_26 : decode cX10_setMode 26 = .ok (.aload_n 0, 1) := by decide +kernel
theorem dX10_setMode_27 : decode cX10_setMode 27 = .ok (.invokevirtual 135, 3) := by decide +kernel
theorem dX10_setMode_30 : decode cX10_setMode 30 = .ok (.return_, 1) := by decide +kernel
set_option maxRecDepth 20000 in
theorem ggX10_vent_X10_in : GoodIn wsX10_vent wsX10_in := goodIn_r _ [6] (by decide +kernel) (by decide +kernel)
set_option maxRecDepth 20000 in
theorem gX10_vent_X10_in : GoodIn wsX10_vent (va_wsS RX10 52 yX10_in wsX10_in) := goodIn_app (goodIn_of _ (by decide +kernel)) ggX10_vent_X10_in
set_option maxRecDepth 20000 in
theorem ggX10_vent_X10_setMode : GoodIn wsX10_vent wsX10_setMode := goodIn_r _ [10, 2, 11, 12, 13, 5, 14, 15, 16, 17, 18, 19, 20, 21, 22, 23, 24, 25, 26, 27, 28] (by decide +kernel) (by decide +kernel)
set_option maxRecDepth 20000 in
theorem gX10_vent_X10_setMode : GoodIn wsX10_vent (wsV RX10 154 RX10 yX10_setMode wsX10_setMode) := goodIn_app (goodIn_of _ (by decide +kernel)) ggX10_vent_X10_setMode
theorem dX10_vent_0 : decode cX10_vent 0 = .ok (.iload_n 1, 1) := by decide +kernel
theorem dX10_vent_1 : decode cX10_vent 1 = .ok (.i2l, 1) := by decide +kernel
theorem dX10_vent_2 : decode cX10_vent 2 = .ok (.lconst 0, 1) := by decide +kernel
theorem dX10_vent_3 : decode cX10_vent 3 = .ok (.ldc2_w 56, 3) := by decide +kernel
theorem dX10_vent_6 : decode cX10_vent 6 = .ok (.invokestatic 52, 3) := by decide +kernel
theorem dX10_vent_9 : decode cX10_vent 9 = .ok (.ifCond .ne 6, 3) := by decide +kernel
theorem dX10_vent_12 : decode cX10_vent 12 = .ok (.bipush (-2), 2) := by decide +kernel
theorem dX10_vent_14 : decode cX10_vent 14 = .ok (.ireturn, 1) := by decide +kernel
theorem dX10_vent_15 : decode cX10_vent 15 = .ok (.aload_n 0, 1) := by decide +kernel
theorem dX10_vent_16 : decode cX10_vent 16 = .ok (.getfield 7, 3) := by decide +kernel
theorem dX10_vent_19 : decode cX10_vent 19 = .ok (.bipush 80, 2) := by decide +kernel
theorem dX10_vent_21 : decode cX10_vent 21 = .ok (.laload, 1) := by decide +kernel
theorem dX10_vent_22 : decode cX10_vent 22 = .ok (.l2i, 1) := by decide +kernel
theorem dX10_vent_23 : decode cX10_vent 23 = .ok (.istore_n 2, 1) := by decide +kernel
theorem dX10_vent_24 : decode cX10_vent 24 = .ok (.aload_n 0, 1) := by decide +kernel
theorem dX10_vent_25 : decode cX10_vent 25 = .ok (.iload_n 1, 1) := by decide +kernel
theorem dX10_vent_26 : decode cX10_vent 26 = .ok (.invokevirtual 154, 3) := by decide +kernel
theorem dX10_vent_29 : decode cX10_vent 29 = .ok (.iload_n 2, 1) := by decide +kernel
theorem dX10_vent_30 : decode cX10_vent 30 = .ok (.ireturn, 1) := by decide +kernel
set_option maxRecDepth 20000 in
theorem ggX10_open_X10_isAway : GoodIn wsX10_open wsX10_isAway := goodIn_r _ [6, 1, 20, 21, 22, 23, 24, 25, 26, 27, 28, 29] (by decide +kernel) (by decide +kernel)
set_option maxRecDepth 20000 in
theorem gX10_open_X10_isAway : GoodIn wsX10_open (wsV RX10 106 RX10 yX10_isAway wsX10_isAway) := goodIn_app (goodIn_of _ (by decide +kernel)) ggX10_open_X10_isAway
set_option maxRecDepth 20000 in
theorem ggX10_open_X10_isDoorOpen : GoodIn wsX10_open wsX10_isDoorOpen := goodIn_r _ [10, 1, 20, 21, 22, 23, 24, 25, 26, 27, 28, 29] (by decide +kernel) (by decide +kernel)
set_option maxRecDepth 20000 in
theorem gX10_open_X10_isDoorOpen : GoodIn wsX10_open (wsV RX10 62 RX10 yX10_isDoorOpen wsX10_isDoorOpen) := goodIn_app (goodIn_of _ (by decide +kernel)) ggX10_open_X10_isDoorOpen
set_option maxRecDepth 20000 in
theorem ggX10_open_X10_concentration : GoodIn wsX10_open wsX10_concentration := goodIn_r _ [14, 1, 15, 20, 21, 22, 23, 24, 25, 26, 27, 28, 29] (by decide +kernel) (by decide +kernel)
set_option maxRecDepth 20000 in
theorem gX10_open_X10_concentration : GoodIn wsX10_open (wsV RX10 129 RX10 yX10_concentration wsX10_concentration) := goodIn_app (goodIn_of _ (by decide +kernel)) ggX10_open_X10_concentration
set_option maxRecDepth 20000 in
theorem ggX10_open_X10_openVent : GoodIn wsX10_open wsX10_openVent := goodIn_r _ [19, 1, 20, 21, 22, 23, 24, 25, 26, 27, 28, 29] (by decide +kernel) (by decide +kernel)
set_option maxRecDepth 20000 in
theorem gX10_open_X10_openVent : GoodIn wsX10_open (wsV RX10 135 RX10 yX10_openVent wsX10_openVent) := goodIn_app (goodIn_of _ (by decide +kernel)) ggX10_open_X10_openVent
theorem dX10_open_0 : decode cX10_open 0 = .ok (.aload_n 0, 1) := by decide +kernel
theorem dX10_open_1 : decode cX10_open 1 = .ok (.invokevirtual 106, 3) := by decide +kernel
theorem dX10_open_4 : decode cX10_open 4 = .ok (.ifCond .ne 10, 3) := by decide +kernel
theorem dX10_open_7 : decode cX10_open 7 = .ok (.aload_n 0, 1) := by decide +kernel
theorem dX10_open_8 : decode cX10_open 8 = .ok (.invokevirtual 62, 3) := by decide +kernel
theorem dX10_open_11 : decode cX10_open 11 = .ok (.ifCond .eq 6, 3) := by decide +kernel
theorem dX10_open_14 : decode cX10_open 14 = .ok (.bipush (-5), 2) := by decide +kernel
theorem dX10_open_16 : decode cX10_open 16 = .ok (.ireturn, 1) := by decide +kernel
theorem dX10_open_17 : decode cX10_open 17 = .ok (.aload_n 0, 1) := by decide +kernel
theorem dX10_open_18 : decode cX10_open 18 = .ok (.invokevirtual 129, 3) := by decide +kernel
theorem dX10_open_21 : decode cX10_open 21 = .ok (.i2l, 1) := by decide +kernel
theorem dX10_open_22 : decode cX10_open 22 = .ok (.aload_n 0, 1) := by decide +kernel
theorem dX10_open_23 : decode cX10_open 23 = .ok (.getfield 7, 3) := by decide +kernel
theorem dX10_open_26 : decode cX10_open 26 = .ok (.bipush 72, 2) := by decide +kernel
theorem dX10_open_28 : decode cX10_open 28 = .ok (.laload, 1) := by decide +kernel
theorem dX10_open_29 : decode cX10_open 29 = .ok (.lcmp, 1) := by decide +kernel
theorem dX10_open_30 : decode cX10_open 30 = .ok (.ifCond .lt 10, 3) := by decide +kernel
theorem dX10_open_33 : decode cX10_open 33 = .ok (.aload_n 0, 1) := by decide +kernel
theorem dX10_open_34 : decode cX10_open 34 = .ok (.invokevirtual 135, 3) := by decide +kernel
theorem dX10_open_37 : decode cX10_open 37 = .ok (.bipush (-6), 2) := by decide +kernel
theorem dX10_open_39 : decode cX10_open 39 = .ok (.ireturn, 1) := by decide +kernel
theorem dX10_open_40 : decode cX10_open 40 = .ok (.aload_n 0, 1) := by decide +kernel
theorem dX10_open_41 : decode cX10_open 41 = .ok (.getfield 7, 3) := by decide +kernel
theorem dX10_open_44 : decode cX10_open 44 = .ok (.bipush 83, 2) := by decide +kernel
theorem dX10_open_46 : decode cX10_open 46 = .ok (.lconst 1, 1) := by decide +kernel
theorem dX10_open_47 : decode cX10_open 47 = .ok (.lastore, 1) := by decide +kernel
theorem dX10_open_48 : decode cX10_open 48 = .ok (.aload_n 0, 1) := by decide +kernel
theorem dX10_open_49 : decode cX10_open 49 = .ok (.invokevirtual 129, 3) := by decide +kernel
theorem dX10_open_52 : decode cX10_open 52 = .ok (.ireturn, 1) := by decide +kernel
set_option maxRecDepth 20000 in
theorem ggX10_shut_X10_isDoorOpen : GoodIn wsX10_shut wsX10_isDoorOpen := goodIn_r _ [6, 1, 12, 13, 14, 15, 16, 17, 18, 19, 20, 21] (by decide +kernel) (by decide +kernel)
set_option maxRecDepth 20000 in
theorem gX10_shut_X10_isDoorOpen : GoodIn wsX10_shut (wsV RX10 62 RX10 yX10_isDoorOpen wsX10_isDoorOpen) := goodIn_app (goodIn_of _ (by decide +kernel)) ggX10_shut_X10_isDoorOpen
set_option maxRecDepth 20000 in
theorem ggX10_shut_X10_concentration : GoodIn wsX10_shut wsX10_concentration := goodIn_r _ [10, 1, 11, 12, 13, 14, 15, 16, 17, 18, 19, 20, 21] (by decide +kernel) (by decide +kernel)
set_option maxRecDepth 20000 in
theorem gX10_shut_X10_concentration : GoodIn wsX10_shut (wsV RX10 129 RX10 yX10_concentration wsX10_concentration) := goodIn_app (goodIn_of _ (by decide +kernel)) ggX10_shut_X10_concentration
theorem dX10_shut_0 : decode cX10_shut 0 = .ok (.aload_n 0, 1) := by decide +kernel
theorem dX10_shut_1 : decode cX10_shut 1 = .ok (.invokevirtual 62, 3) := by decide +kernel
theorem dX10_shut_4 : decode cX10_shut 4 = .ok (.ifCond .ne 6, 3) := by decide +kernel
theorem dX10_shut_7 : decode cX10_shut 7 = .ok (.bipush (-5), 2) := by decide +kernel
theorem dX10_shut_9 : decode cX10_shut 9 = .ok (.ireturn, 1) := by decide +kernel
theorem dX10_shut_10 : decode cX10_shut 10 = .ok (.aload_n 0, 1) := by decide +kernel
theorem dX10_shut_11 : decode cX10_shut 11 = .ok (.getfield 7, 3) := by decide +kernel
theorem dX10_shut_14 : decode cX10_shut 14 = .ok (.bipush 83, 2) := by decide +kernel
theorem dX10_shut_16 : decode cX10_shut 16 = .ok (.lconst 0, 1) := by decide +kernel
theorem dX10_shut_17 : decode cX10_shut 17 = .ok (.lastore, 1) := by decide +kernel
theorem dX10_shut_18 : decode cX10_shut 18 = .ok (.aload_n 0, 1) := by decide +kernel
theorem dX10_shut_19 : decode cX10_shut 19 = .ok (.invokevirtual 129, 3) := by decide +kernel
theorem dX10_shut_22 : decode cX10_shut 22 = .ok (.ireturn, 1) := by decide +kernel
set_option maxRecDepth 20000 in
theorem ggX10_allIce_X10_boxes : GoodIn wsX10_allIce wsX10_boxes := goodIn_r _ [5, 6, 11, 12, 13, 14, 15, 16, 17, 18, 19, 20] (by decide +kernel) (by decide +kernel)
set_option maxRecDepth 20000 in
theorem gX10_allIce_X10_boxes : GoodIn wsX10_allIce (wsV RX10 48 RX10 yX10_boxes wsX10_boxes) := goodIn_app (goodIn_of _ (by decide +kernel)) ggX10_allIce_X10_boxes
set_option maxRecDepth 20000 in
theorem ggX10_allIce_X10_of : GoodIn wsX10_allIce wsX10_of := goodIn_r _ [10, 6, 11, 12, 13, 14, 15, 16, 17, 18, 19, 20] (by decide +kernel) (by decide +kernel)
set_option maxRecDepth 20000 in
theorem gX10_allIce_X10_of : GoodIn wsX10_allIce (wsV RX10 74 RX10 yX10_of wsX10_of) := goodIn_app (goodIn_of _ (by decide +kernel)) ggX10_allIce_X10_of
theorem dX10_allIce_0 : decode cX10_allIce 0 = .ok (.lconst 0, 1) := by decide +kernel
theorem dX10_allIce_1 : decode cX10_allIce 1 = .ok (.lstore_n 1, 1) := by decide +kernel
theorem dX10_allIce_2 : decode cX10_allIce 2 = .ok (.iconst 0, 1) := by decide +kernel
theorem dX10_allIce_3 : decode cX10_allIce 3 = .ok (.istore_n 3, 1) := by decide +kernel
theorem dX10_allIce_4 : decode cX10_allIce 4 = .ok (.iload_n 3, 1) := by decide +kernel
theorem dX10_allIce_5 : decode cX10_allIce 5 = .ok (.aload_n 0, 1) := by decide +kernel
theorem dX10_allIce_6 : decode cX10_allIce 6 = .ok (.invokevirtual 48, 3) := by decide +kernel
theorem dX10_allIce_9 : decode cX10_allIce 9 = .ok (.if_icmp .ge 18, 3) := by decide +kernel
theorem dX10_allIce_12 : decode cX10_allIce 12 = .ok (.lload_n 1, 1) := by decide +kernel
theorem dX10_allIce_13 : decode cX10_allIce 13 = .ok (.aload_n 0, 1) := by decide +kernel
theorem dX10_allIce_14 : decode cX10_allIce 14 = .ok (.iload_n 3, 1) := by decide +kernel
theorem dX10_allIce_15 : decode cX10_allIce 15 = .ok (.iconst 2, 1) := by decide +kernel
theorem dX10_allIce_16 : decode cX10_allIce 16 = .ok (.invokevirtual 74, 3) := by decide +kernel
theorem dX10_allIce_19 : decode cX10_allIce 19 = .ok (.ladd, 1) := by decide +kernel
theorem dX10_allIce_20 : decode cX10_allIce 20 = .ok (.lstore_n 1, 1) := by decide +kernel
theorem dX10_allIce_21 : decode cX10_allIce 21 = .ok (.iinc 3 1, 3) := by decide +kernel
theorem dX10_allIce_24 : decode cX10_allIce 24 = .ok (.goto (-20), 3) := by decide +kernel
theorem dX10_allIce_27 : decode cX10_allIce 27 = .ok (.lload_n 1, 1) := by decide +kernel
theorem dX10_allIce_28 : decode cX10_allIce 28 = .ok (.lreturn, 1) := by decide +kernel
set_option maxRecDepth 20000 in
theorem ggX10_take_X10_boxes : GoodIn wsX10_take wsX10_boxes := goodIn_r _ [5, 6, 15, 16, 17, 18, 19, 20, 21, 22, 23, 24] (by decide +kernel) (by decide +kernel)
set_option maxRecDepth 20000 in
theorem gX10_take_X10_boxes : GoodIn wsX10_take (wsV RX10 48 RX10 yX10_boxes wsX10_boxes) := goodIn_app (goodIn_of _ (by decide +kernel)) ggX10_take_X10_boxes
set_option maxRecDepth 20000 in
theorem ggX10_take_X10_of : GoodIn wsX10_take wsX10_of := goodIn_r _ [10, 6, 15, 16, 17, 18, 19, 20, 21, 22, 23, 24] (by decide +kernel) (by decide +kernel)
set_option maxRecDepth 20000 in
theorem gX10_take_X10_of : GoodIn wsX10_take (wsV RX10 74 RX10 yX10_of wsX10_of) := goodIn_app (goodIn_of _ (by decide +kernel)) ggX10_take_X10_of
set_option maxRecDepth 20000 in
theorem ggX10_take_X10_lay : GoodIn wsX10_take wsX10_lay := goodIn_r _ [14, 6, 15, 16, 17, 18, 19, 20, 21, 22, 23, 24] (by decide +kernel) (by decide +kernel)
set_option maxRecDepth 20000 in
theorem gX10_take_X10_lay : GoodIn wsX10_take (wsV RX10 66 RX10 yX10_lay wsX10_lay) := goodIn_app (goodIn_of _ (by decide +kernel)) ggX10_take_X10_lay
theorem dX10_take_0 : decode cX10_take 0 = .ok (.lload_n 1, 1) := by decide +kernel
theorem dX10_take_1 : decode cX10_take 1 = .ok (.lstore_n 3, 1) := by decide +kernel
theorem dX10_take_2 : decode cX10_take 2 = .ok (.iconst 0, 1) := by decide +kernel
theorem dX10_take_3 : decode cX10_take 3 = .ok (.istore 5, 2) := by decide +kernel
theorem dX10_take_5 : decode cX10_take 5 = .ok (.iconst 0, 1) := by decide +kernel
theorem dX10_take_6 : decode cX10_take 6 = .ok (.istore 6, 2) := by decide +kernel
theorem dX10_take_8 : decode cX10_take 8 = .ok (.iload 6, 2) := by decide +kernel
theorem dX10_take_10 : decode cX10_take 10 = .ok (.aload_n 0, 1) := by decide +kernel
theorem dX10_take_11 : decode cX10_take 11 = .ok (.invokevirtual 48, 3) := by decide +kernel
theorem dX10_take_14 : decode cX10_take 14 = .ok (.if_icmp .ge 105, 3) := by decide +kernel
theorem dX10_take_17 : decode cX10_take 17 = .ok (.lload_n 3, 1) := by decide +kernel
theorem dX10_take_18 : decode cX10_take 18 = .ok (.aload_n 0, 1) := by decide +kernel
theorem dX10_take_19 : decode cX10_take 19 = .ok (.iload 6, 2) := by decide +kernel
theorem dX10_take_21 : decode cX10_take 21 = .ok (.iconst 2, 1) := by decide +kernel
theorem dX10_take_22 : decode cX10_take 22 = .ok (.invokevirtual 74, 3) := by decide +kernel
theorem dX10_take_25 : decode cX10_take 25 = .ok (.lcmp, 1) := by decide +kernel
theorem dX10_take_26 : decode cX10_take 26 = .ok (.ifCond .ge 7, 3) := by decide +kernel
theorem dX10_take_29 : decode cX10_take 29 = .ok (.lload_n 3, 1) := by decide +kernel
theorem dX10_take_30 : decode cX10_take 30 = .ok (.goto 10, 3) := by decide +kernel
theorem dX10_take_33 : decode cX10_take 33 = .ok (.aload_n 0, 1) := by decide +kernel
theorem dX10_take_34 : decode cX10_take 34 = .ok (.iload 6, 2) := by decide +kernel
theorem dX10_take_36 : decode cX10_take 36 = .ok (.iconst 2, 1) := by decide +kernel
theorem dX10_take_37 : decode cX10_take 37 = .ok (.invokevirtual 74, 3) := by decide +kernel
theorem dX10_take_40 : decode cX10_take 40 = .ok (.lstore 7, 2) := by decide +kernel
theorem dX10_take_42 : decode cX10_take 42 = .ok (.aload_n 0, 1) := by decide +kernel
theorem dX10_take_43 : decode cX10_take 43 = .ok (.iload 6, 2) := by decide +kernel
theorem dX10_take_45 : decode cX10_take 45 = .ok (.iconst 3, 1) := by decide +kernel
theorem dX10_take_46 : decode cX10_take 46 = .ok (.invokevirtual 74, 3) := by decide +kernel
theorem dX10_take_49 : decode cX10_take 49 = .ok (.lload 7, 2) := by decide +kernel
theorem dX10_take_51 : decode cX10_take 51 = .ok (.lsub, 1) := by decide +kernel
theorem dX10_take_52 : decode cX10_take 52 = .ok (.lstore 9, 2) := by decide +kernel
theorem dX10_take_54 : decode cX10_take 54 = .ok (.aload_n 0, 1) := by decide +kernel
theorem dX10_take_55 : decode cX10_take 55 = .ok (.iload 6, 2) := by decide +kernel
theorem dX10_take_57 : decode cX10_take 57 = .ok (.iconst 2, 1) := by decide +kernel
theorem dX10_take_58 : decode cX10_take 58 = .ok (.aload_n 0, 1) := by decide +kernel
theorem dX10_take_59 : decode cX10_take 59 = .ok (.iload 6, 2) := by decide +kernel
theorem dX10_take_61 : decode cX10_take 61 = .ok (.iconst 2, 1) := by decide +kernel
theorem dX10_take_62 : decode cX10_take 62 = .ok (.invokevirtual 74, 3) := by decide +kernel
theorem dX10_take_65 : decode cX10_take 65 = .ok (.lload 7, 2) := by decide +kernel
theorem dX10_take_67 : decode cX10_take 67 = .ok (.lsub, 1) := by decide +kernel
theorem dX10_take_68 : decode cX10_take 68 = .ok (.invokevirtual 66, 3) := by decide +kernel
theorem dX10_take_71 : decode cX10_take 71 = .ok (.aload_n 0, 1) := by decide +kernel
theorem dX10_take_72 : decode cX10_take 72 = .ok (.iload 6, 2) := by decide +kernel
theorem dX10_take_74 : decode cX10_take 74 = .ok (.iconst 3, 1) := by decide +kernel
theorem dX10_take_75 : decode cX10_take 75 = .ok (.lload 9, 2) := by decide +kernel
theorem dX10_take_77 : decode cX10_take 77 = .ok (.lconst 0, 1) := by decide +kernel
theorem dX10_take_78 : decode cX10_take 78 = .ok (.lcmp, 1) := by decide +kernel
theorem dX10_take_79 : decode cX10_take 79 = .ok (.ifCond .ge 7, 3) := by decide +kernel
theorem dX10_take_82 : decode cX10_take 82 = .ok (.lconst 0, 1) := by decide +kernel
theorem dX10_take_83 : decode cX10_take 83 = .ok (.goto 5, 3) := by decide +kernel
theorem dX10_take_86 : decode cX10_take 86 = .ok (.lload 9, 2) := by decide +kernel
theorem dX10_take_88 : decode cX10_take 88 = .ok (.invokevirtual 66, 3) := by decide +kernel
theorem dX10_take_91 : decode cX10_take 91 = .ok (.iload 5, 2) := by decide +kernel
theorem dX10_take_93 : decode cX10_take 93 = .ok (.lload 7, 2) := by decide +kernel
theorem dX10_take_95 : decode cX10_take 95 = .ok (.lconst 0, 1) := by decide +kernel
theorem dX10_take_96 : decode cX10_take 96 = .ok (.lcmp, 1) := by decide +kernel
theorem dX10_take_97 : decode cX10_take 97 = .ok (.ifCond .le 7, 3) := by decide +kernel
theorem dX10_take_100 : decode cX10_take 100 = .ok (.iconst 1, 1) := by decide +kernel
theorem dX10_take_101 : decode cX10_take 101 = .ok (.goto 4, 3) := by decide +kernel
theorem dX10_take_104 : decode cX10_take 104 = .ok (.iconst 0, 1) := by decide +kernel
theorem dX10_take_105 : decode cX10_take 105 = .ok (.iadd, 1) := by decide +kernel
theorem dX10_take_106 : decode cX10_take 106 = .ok (.istore 5, 2) := by decide +kernel
theorem dX10_take_108 : decode cX10_take 108 = .ok (.lload_n 3, 1) := by decide +kernel
theorem dX10_take_109 : decode cX10_take 109 = .ok (.lload 7, 2) := by decide +kernel
theorem dX10_take_111 : decode cX10_take 111 = .ok (.lsub, 1) := by decide +kernel
theorem dX10_take_112 : decode cX10_take 112 = .ok (.lstore_n 3, 1) := by decide +kernel
theorem dX10_take_113 : decode cX10_take 113 = .ok (.iinc 6 1, 3) := by decide +kernel
theorem dX10_take_116 : decode cX10_take 116 = .ok (.goto (-108), 3) := by decide +kernel
theorem dX10_take_119 : decode cX10_take 119 = .ok (.iload 5, 2) := by decide +kernel
theorem dX10_take_121 : decode cX10_take 121 = .ok (.ireturn, 1) := by decide +kernel
set_option maxRecDepth 20000 in
theorem ggX10_sell_X10_in : GoodIn wsX10_sell wsX10_in := goodIn_r _ [6] (by decide +kernel) (by decide +kernel)
set_option maxRecDepth 20000 in
theorem gX10_sell_X10_in : GoodIn wsX10_sell (va_wsS RX10 52 yX10_in wsX10_in) := goodIn_app (goodIn_of _ (by decide +kernel)) ggX10_sell_X10_in
set_option maxRecDepth 20000 in
theorem ggX10_sell_X10_isDoorOpen : GoodIn wsX10_sell wsX10_isDoorOpen := goodIn_r _ [10, 2, 31, 32, 33, 34, 35, 36, 37, 38, 39, 40] (by decide +kernel) (by decide +kernel)
set_option maxRecDepth 20000 in
theorem gX10_sell_X10_isDoorOpen : GoodIn wsX10_sell (wsV RX10 62 RX10 yX10_isDoorOpen wsX10_isDoorOpen) := goodIn_app (goodIn_of _ (by decide +kernel)) ggX10_sell_X10_isDoorOpen
set_option maxRecDepth 20000 in
theorem ggX10_sell_X10_allIce : GoodIn wsX10_sell wsX10_allIce := goodIn_r _ [14, 15, 16, 17, 5, 18, 2, 19, 20, 21, 22, 31, 32, 33, 34, 35, 36, 37, 38, 39, 40] (by decide +kernel) (by decide +kernel)
set_option maxRecDepth 20000 in
theorem gX10_sell_X10_allIce : GoodIn wsX10_sell (wsV RX10 160 RX10 yX10_allIce wsX10_allIce) := goodIn_app (goodIn_of _ (by decide +kernel)) ggX10_sell_X10_allIce
set_option maxRecDepth 20000 in
theorem ggX10_sell_X10_take : GoodIn wsX10_sell wsX10_take := goodIn_r _ [26, 15, 16, 17, 5, 18, 2, 19, 20, 21, 22, 27, 28, 29, 30, 31, 32, 33, 34, 35, 36, 37, 38, 39, 40] (by decide +kernel) (by decide +kernel)
set_option maxRecDepth 20000 in
theorem gX10_sell_X10_take : GoodIn wsX10_sell (wsV RX10 163 RX10 yX10_take wsX10_take) := goodIn_app (goodIn_of _ (by decide +kernel)) ggX10_sell_X10_take
theorem dX10_sell_0 : decode cX10_sell 0 = .ok (.iload_n 1, 1) := by decide +kernel
theorem dX10_sell_1 : decode cX10_sell 1 = .ok (.i2l, 1) := by decide +kernel
theorem dX10_sell_2 : decode cX10_sell 2 = .ok (.lconst 1, 1) := by decide +kernel
theorem dX10_sell_3 : decode cX10_sell 3 = .ok (.ldc2_w 158, 3) := by decide +kernel
theorem dX10_sell_6 : decode cX10_sell 6 = .ok (.invokestatic 52, 3) := by decide +kernel
theorem dX10_sell_9 : decode cX10_sell 9 = .ok (.ifCond .ne 6, 3) := by decide +kernel
theorem dX10_sell_12 : decode cX10_sell 12 = .ok (.bipush (-2), 2) := by decide +kernel
theorem dX10_sell_14 : decode cX10_sell 14 = .ok (.ireturn, 1) := by decide +kernel
theorem dX10_sell_15 : decode cX10_sell 15 = .ok (.aload_n 0, 1) := by decide +kernel
theorem dX10_sell_16 : decode cX10_sell 16 = .ok (.invokevirtual 62, 3) := by decide +kernel
theorem dX10_sell_19 : decode cX10_sell 19 = .ok (.ifCond .eq 13, 3) := by decide +kernel
theorem dX10_sell_22 : decode cX10_sell 22 = .ok (.aload_n 0, 1) := by decide +kernel
theorem dX10_sell_23 : decode cX10_sell 23 = .ok (.invokevirtual 160, 3) := by decide +kernel
theorem dX10_sell_26 : decode cX10_sell 26 = .ok (.iload_n 1, 1) := by decide +kernel
theorem dX10_sell_27 : decode cX10_sell 27 = .ok (.i2l, 1) := by decide +kernel
theorem dX10_sell_28 : decode cX10_sell 28 = .ok (.lcmp, 1) := by decide +kernel
theorem dX10_sell_29 : decode cX10_sell 29 = .ok (.ifCond .ge 6, 3) := by decide +kernel
theorem dX10_sell_32 : decode cX10_sell 32 = .ok (.bipush (-5), 2) := by decide +kernel
theorem dX10_sell_34 : decode cX10_sell 34 = .ok (.ireturn, 1) := by decide +kernel
theorem dX10_sell_35 : decode cX10_sell 35 = .ok (.aload_n 0, 1) := by decide +kernel
theorem dX10_sell_36 : decode cX10_sell 36 = .ok (.getfield 7, 3) := by decide +kernel
theorem dX10_sell_39 : decode cX10_sell 39 = .ok (.bipush 91, 2) := by decide +kernel
theorem dX10_sell_41 : decode cX10_sell 41 = .ok (.dup2, 1) := by decide +kernel
theorem dX10_sell_42 : decode cX10_sell 42 = .ok (.laload, 1) := by decide +kernel
theorem dX10_sell_43 : decode cX10_sell 43 = .ok (.iload_n 1, 1) := by decide +kernel
theorem dX10_sell_44 : decode cX10_sell 44 = .ok (.i2l, 1) := by decide +kernel
theorem dX10_sell_45 : decode cX10_sell 45 = .ok (.ladd, 1) := by decide +kernel
theorem dX10_sell_46 : decode cX10_sell 46 = .ok (.lastore, 1) := by decide +kernel
theorem dX10_sell_47 : decode cX10_sell 47 = .ok (.aload_n 0, 1) := by decide +kernel
theorem dX10_sell_48 : decode cX10_sell 48 = .ok (.iload_n 1, 1) := by decide +kernel
theorem dX10_sell_49 : decode cX10_sell 49 = .ok (.i2l, 1) := by decide +kernel
theorem dX10_sell_50 : decode cX10_sell 50 = .ok (.invokevirtual 163, 3) := by decide +kernel
theorem dX10_sell_53 : decode cX10_sell 53 = .ok (.ireturn, 1) := by decide +kernel
set_option maxRecDepth 20000 in
theorem ggX10_spill_X10_isBox : GoodIn wsX10_spill wsX10_isBox := goodIn_r _ [7, 8, 9, 10, 6, 11, 2, 12, 13, 14, 23, 24, 25, 26, 27, 28, 29, 30, 31, 32] (by decide +kernel) (by decide +kernel)
set_option maxRecDepth 20000 in
theorem gX10_spill_X10_isBox : GoodIn wsX10_spill (wsV RX10 70 RX10 yX10_isBox wsX10_isBox) := goodIn_app (goodIn_of _ (by decide +kernel)) ggX10_spill_X10_isBox
set_option maxRecDepth 20000 in
theorem ggX10_spill_X10_in : GoodIn wsX10_spill wsX10_in := goodIn_r _ [14] (by decide +kernel) (by decide +kernel)
set_option maxRecDepth 20000 in
theorem gX10_spill_X10_in : GoodIn wsX10_spill (va_wsS RX10 52 yX10_in wsX10_in) := goodIn_app (goodIn_of _ (by decide +kernel)) ggX10_spill_X10_in
set_option maxRecDepth 20000 in
theorem ggX10_spill_X10_of : GoodIn wsX10_spill wsX10_of := goodIn_r _ [18, 2, 23, 24, 25, 26, 27, 28, 29, 30, 31, 32] (by decide +kernel) (by decide +kernel)
set_option maxRecDepth 20000 in
theorem gX10_spill_X10_of : GoodIn wsX10_spill (wsV RX10 74 RX10 yX10_of wsX10_of) := goodIn_app (goodIn_of _ (by decide +kernel)) ggX10_spill_X10_of
set_option maxRecDepth 20000 in
theorem ggX10_spill_X10_lay : GoodIn wsX10_spill wsX10_lay := goodIn_r _ [22, 2, 23, 24, 25, 26, 27, 28, 29, 30, 31, 32] (by decide +kernel) (by decide +kernel)
set_option maxRecDepth 20000 in
theorem gX10_spill_X10_lay : GoodIn wsX10_spill (wsV RX10 66 RX10 yX10_lay wsX10_lay) := goodIn_app (goodIn_of _ (by decide +kernel)) ggX10_spill_X10_lay
theorem dX10_spill_0 : decode cX10_spill 0 = .ok (.aload_n 0, 1) := by decide +kernel
theorem dX10_spill_1 : decode cX10_spill 1 = .ok (.iload_n 1, 1) := by decide +kernel
theorem dX10_spill_2 : decode cX10_spill 2 = .ok (.invokevirtual 70, 3) := by decide +kernel
theorem dX10_spill_5 : decode cX10_spill 5 = .ok (.ifCond .ne 5, 3) := by decide +kernel
theorem dX10_spill_8 : decode cX10_spill 8 = .ok (.iconst (-1), 1) := by decide +kernel
theorem dX10_spill_9 : decode cX10_spill 9 = .ok (.ireturn, 1) := by decide +kernel
theorem dX10_spill_10 : decode cX10_spill 10 = .ok (.iload_n 2, 1) := by decide +kernel
theorem dX10_spill_11 : decode cX10_spill 11 = .ok (.i2l, 1) := by decide +kernel
theorem dX10_spill_12 : decode cX10_spill 12 = .ok (.lconst 1, 1) := by decide +kernel
theorem dX10_spill_13 : decode cX10_spill 13 = .ok (.ldc2_w 60, 3) := by decide +kernel
theorem dX10_spill_16 : decode cX10_spill 16 = .ok (.invokestatic 52, 3) := by decide +kernel
theorem dX10_spill_19 : decode cX10_spill 19 = .ok (.ifCond .eq 15, 3) := by decide +kernel
theorem dX10_spill_22 : decode cX10_spill 22 = .ok (.iload_n 2, 1) := by decide +kernel
theorem dX10_spill_23 : decode cX10_spill 23 = .ok (.i2l, 1) := by decide +kernel
theorem dX10_spill_24 : decode cX10_spill 24 = .ok (.aload_n 0, 1) := by decide +kernel
theorem dX10_spill_25 : decode cX10_spill 25 = .ok (.iload_n 1, 1) := by decide +kernel
theorem dX10_spill_26 : decode cX10_spill 26 = .ok (.iconst 2, 1) := by decide +kernel
theorem dX10_spill_27 : decode cX10_spill 27 = .ok (.invokevirtual 74, 3) := by decide +kernel
theorem dX10_spill_30 : decode cX10_spill 30 = .ok (.lcmp, 1) := by decide +kernel
theorem dX10_spill_31 : decode cX10_spill 31 = .ok (.ifCond .le 6, 3) := by decide +kernel
theorem dX10_spill_34 : decode cX10_spill 34 = .ok (.bipush (-2), 2) := by decide +kernel
theorem dX10_spill_36 : decode cX10_spill 36 = .ok (.ireturn, 1) := by decide +kernel
theorem dX10_spill_37 : decode cX10_spill 37 = .ok (.aload_n 0, 1) := by decide +kernel
theorem dX10_spill_38 : decode cX10_spill 38 = .ok (.iload_n 1, 1) := by decide +kernel
theorem dX10_spill_39 : decode cX10_spill 39 = .ok (.iconst 2, 1) := by decide +kernel
theorem dX10_spill_40 : decode cX10_spill 40 = .ok (.aload_n 0, 1) := by decide +kernel
theorem dX10_spill_41 : decode cX10_spill 41 = .ok (.iload_n 1, 1) := by decide +kernel
theorem dX10_spill_42 : decode cX10_spill 42 = .ok (.iconst 2, 1) := by decide +kernel
theorem dX10_spill_43 : decode cX10_spill 43 = .ok (.invokevirtual 74, 3) := by decide +kernel
theorem dX10_spill_46 : decode cX10_spill 46 = .ok (.iload_n 2, 1) := by decide +kernel
theorem dX10_spill_47 : decode cX10_spill 47 = .ok (.i2l, 1) := by decide +kernel
theorem dX10_spill_48 : decode cX10_spill 48 = .ok (.lsub, 1) := by decide +kernel
theorem dX10_spill_49 : decode cX10_spill 49 = .ok (.invokevirtual 66, 3) := by decide +kernel
theorem dX10_spill_52 : decode cX10_spill 52 = .ok (.aload_n 0, 1) := by decide +kernel
theorem dX10_spill_53 : decode cX10_spill 53 = .ok (.getfield 7, 3) := by decide +kernel
theorem dX10_spill_56 : decode cX10_spill 56 = .ok (.bipush 92, 2) := by decide +kernel
theorem dX10_spill_58 : decode cX10_spill 58 = .ok (.dup2, 1) := by decide +kernel
theorem dX10_spill_59 : decode cX10_spill 59 = .ok (.laload, 1) := by decide +kernel
theorem dX10_spill_60 : decode cX10_spill 60 = .ok (.iload_n 2, 1) := by decide +kernel
theorem dX10_spill_61 : decode cX10_spill 61 = .ok (.i2l, 1) := by decide +kernel
theorem dX10_spill_62 : decode cX10_spill 62 = .ok (.ladd, 1) := by decide +kernel
theorem dX10_spill_63 : decode cX10_spill 63 = .ok (.lastore, 1) := by decide +kernel
theorem dX10_spill_64 : decode cX10_spill 64 = .ok (.aload_n 0, 1) := by decide +kernel
theorem dX10_spill_65 : decode cX10_spill 65 = .ok (.iload_n 1, 1) := by decide +kernel
theorem dX10_spill_66 : decode cX10_spill 66 = .ok (.iconst 2, 1) := by decide +kernel
theorem dX10_spill_67 : decode cX10_spill 67 = .ok (.invokevirtual 74, 3) := by decide +kernel
theorem dX10_spill_70 : decode cX10_spill 70 = .ok (.l2i, 1) := by decide +kernel
theorem dX10_spill_71 : decode cX10_spill 71 = .ok (.ireturn, 1) := by decide +kernel
set_option maxRecDepth 20000 in
theorem ggX10_weigh_X10_isBox : GoodIn wsX10_weigh wsX10_isBox := goodIn_r _ [5, 6, 7, 8, 4, 9, 10, 11, 12, 13, 22, 23, 24, 25, 26, 27, 28, 29, 30, 31] (by decide +kernel) (by decide +kernel)
set_option maxRecDepth 20000 in
theorem gX10_weigh_X10_isBox : GoodIn wsX10_weigh (wsV RX10 70 RX10 yX10_isBox wsX10_isBox) := goodIn_app (goodIn_of _ (by decide +kernel)) ggX10_weigh_X10_isBox
set_option maxRecDepth 20000 in
theorem ggX10_weigh_X10_isAway : GoodIn wsX10_weigh wsX10_isAway := goodIn_r _ [17, 10, 22, 23, 24, 25, 26, 27, 28, 29, 30, 31] (by decide +kernel) (by decide +kernel)
set_option maxRecDepth 20000 in
theorem gX10_weigh_X10_isAway : GoodIn wsX10_weigh (wsV RX10 106 RX10 yX10_isAway wsX10_isAway) := goodIn_app (goodIn_of _ (by decide +kernel)) ggX10_weigh_X10_isAway
set_option maxRecDepth 20000 in
theorem ggX10_weigh_X10_of : GoodIn wsX10_weigh wsX10_of := goodIn_r _ [21, 10, 22, 23, 24, 25, 26, 27, 28, 29, 30, 31] (by decide +kernel) (by decide +kernel)
set_option maxRecDepth 20000 in
theorem gX10_weigh_X10_of : GoodIn wsX10_weigh (wsV RX10 74 RX10 yX10_of wsX10_of) := goodIn_app (goodIn_of _ (by decide +kernel)) ggX10_weigh_X10_of
theorem dX10_weigh_0 : decode cX10_weigh 0 = .ok (.aload_n 0, 1) := by decide +kernel
theorem dX10_weigh_1 : decode cX10_weigh 1 = .ok (.iload_n 1, 1) := by decide +kernel
theorem dX10_weigh_2 : decode cX10_weigh 2 = .ok (.invokevirtual 70, 3) := by decide +kernel
theorem dX10_weigh_5 : decode cX10_weigh 5 = .ok (.ifCond .ne 5, 3) := by decide +kernel
theorem dX10_weigh_8 : decode cX10_weigh 8 = .ok (.iconst (-1), 1) := by decide +kernel
theorem dX10_weigh_9 : decode cX10_weigh 9 = .ok (.ireturn, 1) := by decide +kernel
theorem dX10_weigh_10 : decode cX10_weigh 10 = .ok (.aload_n 0, 1) := by decide +kernel
theorem dX10_weigh_11 : decode cX10_weigh 11 = .ok (.invokevirtual 106, 3) := by decide +kernel
theorem dX10_weigh_14 : decode cX10_weigh 14 = .ok (.ifCond .eq 8, 3) := by decide +kernel
theorem dX10_weigh_17 : decode cX10_weigh 17 = .ok (.bipush (-5), 2) := by decide +kernel
theorem dX10_weigh_19 : decode cX10_weigh 19 = .ok (.goto 17, 3) := by decide +kernel
theorem dX10_weigh_22 : decode cX10_weigh 22 = .ok (.aload_n 0, 1) := by decide +kernel
theorem dX10_weigh_23 : decode cX10_weigh 23 = .ok (.iload_n 1, 1) := by decide +kernel
theorem dX10_weigh_24 : decode cX10_weigh 24 = .ok (.iconst 1, 1) := by decide +kernel
theorem dX10_weigh_25 : decode cX10_weigh 25 = .ok (.invokevirtual 74, 3) := by decide +kernel
theorem dX10_weigh_28 : decode cX10_weigh 28 = .ok (.aload_n 0, 1) := by decide +kernel
theorem dX10_weigh_29 : decode cX10_weigh 29 = .ok (.iload_n 1, 1) := by decide +kernel
theorem dX10_weigh_30 : decode cX10_weigh 30 = .ok (.iconst 2, 1) := by decide +kernel
theorem dX10_weigh_31 : decode cX10_weigh 31 = .ok (.invokevirtual 74, 3) := by decide +kernel
theorem dX10_weigh_34 : decode cX10_weigh 34 = .ok (.ladd, 1) := by decide +kernel
theorem dX10_weigh_35 : decode cX10_weigh 35 = .ok (.l2i, 1) := by decide +kernel
theorem dX10_weigh_36 : decode cX10_weigh 36 = .ok (.ireturn, 1) := by decide +kernel
set_option maxRecDepth 20000 in
theorem ggX10_check_X10_isBox : GoodIn wsX10_check wsX10_isBox := goodIn_r _ [7, 8, 9, 10, 6, 11, 12, 13, 14, 15, 28, 29, 30, 31, 32, 33, 34, 35, 36, 37] (by decide +kernel) (by decide +kernel)
set_option maxRecDepth 20000 in
theorem gX10_check_X10_isBox : GoodIn wsX10_check (wsV RX10 70 RX10 yX10_isBox wsX10_isBox) := goodIn_app (goodIn_of _ (by decide +kernel)) ggX10_check_X10_isBox
set_option maxRecDepth 20000 in
theorem ggX10_check_X10_isAway : GoodIn wsX10_check wsX10_isAway := goodIn_r _ [19, 12, 28, 29, 30, 31, 32, 33, 34, 35, 36, 37] (by decide +kernel) (by decide +kernel)
set_option maxRecDepth 20000 in
theorem gX10_check_X10_isAway : GoodIn wsX10_check (wsV RX10 106 RX10 yX10_isAway wsX10_isAway) := goodIn_app (goodIn_of _ (by decide +kernel)) ggX10_check_X10_isAway
set_option maxRecDepth 20000 in
theorem ggX10_check_X10_of : GoodIn wsX10_check wsX10_of := goodIn_r _ [23, 12, 28, 29, 30, 31, 32, 33, 34, 35, 36, 37] (by decide +kernel) (by decide +kernel)
set_option maxRecDepth 20000 in
theorem gX10_check_X10_of : GoodIn wsX10_check (wsV RX10 74 RX10 yX10_of wsX10_of) := goodIn_app (goodIn_of _ (by decide +kernel)) ggX10_check_X10_of
set_option maxRecDepth 20000 in
theorem ggX10_check_X10_lay : GoodIn wsX10_check wsX10_lay := goodIn_r _ [27, 12, 28, 29, 30, 31, 32, 33, 34, 35, 36, 37] (by decide +kernel) (by decide +kernel)
set_option maxRecDepth 20000 in
theorem gX10_check_X10_lay : GoodIn wsX10_check (wsV RX10 66 RX10 yX10_lay wsX10_lay) := goodIn_app (goodIn_of _ (by decide +kernel)) ggX10_check_X10_lay
theorem dX10_check_0 : decode cX10_check 0 = .ok (.aload_n 0, 1) := by decide +kernel
theorem dX10_check_1 : decode cX10_check 1 = .ok (.iload_n 1, 1) := by decide +kernel
theorem dX10_check_2 : decode cX10_check 2 = .ok (.invokevirtual 70, 3) := by decide +kernel
theorem dX10_check_5 : decode cX10_check 5 = .ok (.ifCond .ne 6, 3) := by decide +kernel
theorem dX10_check_8 : decode cX10_check 8 = .ok (.ldc 167, 2) := by decide +kernel
theorem dX10_check_10 : decode cX10_check 10 = .ok (.ireturn, 1) := by decide +kernel
theorem dX10_check_11 : decode cX10_check 11 = .ok (.aload_n 0, 1) := by decide +kernel
theorem dX10_check_12 : decode cX10_check 12 = .ok (.invokevirtual 106, 3) := by decide +kernel
theorem dX10_check_15 : decode cX10_check 15 = .ok (.ifCond .eq 6, 3) := by decide +kernel
theorem dX10_check_18 : decode cX10_check 18 = .ok (.ldc 168, 2) := by decide +kernel
theorem dX10_check_20 : decode cX10_check 20 = .ok (.ireturn, 1) := by decide +kernel
theorem dX10_check_21 : decode cX10_check 21 = .ok (.aload_n 0, 1) := by decide +kernel
theorem dX10_check_22 : decode cX10_check 22 = .ok (.iload_n 1, 1) := by decide +kernel
theorem dX10_check_23 : decode cX10_check 23 = .ok (.iconst 3, 1) := by decide +kernel
theorem dX10_check_24 : decode cX10_check 24 = .ok (.invokevirtual 74, 3) := by decide +kernel
theorem dX10_check_27 : decode cX10_check 27 = .ok (.aload_n 0, 1) := by decide +kernel
theorem dX10_check_28 : decode cX10_check 28 = .ok (.iload_n 1, 1) := by decide +kernel
theorem dX10_check_29 : decode cX10_check 29 = .ok (.iconst 2, 1) := by decide +kernel
theorem dX10_check_30 : decode cX10_check 30 = .ok (.invokevirtual 74, 3) := by decide +kernel
theorem dX10_check_33 : decode cX10_check 33 = .ok (.lsub, 1) := by decide +kernel
theorem dX10_check_34 : decode cX10_check 34 = .ok (.l2i, 1) := by decide +kernel
theorem dX10_check_35 : decode cX10_check 35 = .ok (.istore_n 2, 1) := by decide +kernel
theorem dX10_check_36 : decode cX10_check 36 = .ok (.aload_n 0, 1) := by decide +kernel
theorem dX10_check_37 : decode cX10_check 37 = .ok (.iload_n 1, 1) := by decide +kernel
theorem dX10_check_38 : decode cX10_check 38 = .ok (.iconst 3, 1) := by decide +kernel
theorem dX10_check_39 : decode cX10_check 39 = .ok (.aload_n 0, 1) := by decide +kernel
theorem dX10_check_40 : decode cX10_check 40 = .ok (.iload_n 1, 1) := by decide +kernel
theorem dX10_check_41 : decode cX10_check 41 = .ok (.iconst 2, 1) := by decide +kernel
theorem dX10_check_42 : decode cX10_check 42 = .ok (.invokevirtual 74, 3) := by decide +kernel
theorem dX10_check_45 : decode cX10_check 45 = .ok (.invokevirtual 66, 3) := by decide +kernel
theorem dX10_check_48 : decode cX10_check 48 = .ok (.iload_n 2, 1) := by decide +kernel
theorem dX10_check_49 : decode cX10_check 49 = .ok (.ireturn, 1) := by decide +kernel
set_option maxRecDepth 20000 in
theorem ggX10_box_X10_isBox : GoodIn wsX10_box wsX10_isBox := goodIn_r _ [6, 7, 8, 9, 5, 10, 11, 12, 13, 14, 25, 26, 27, 28, 29, 30, 31, 32, 33, 34] (by decide +kernel) (by decide +kernel)
set_option maxRecDepth 20000 in
theorem gX10_box_X10_isBox : GoodIn wsX10_box (wsV RX10 70 RX10 yX10_isBox wsX10_isBox) := goodIn_app (goodIn_of _ (by decide +kernel)) ggX10_box_X10_isBox
set_option maxRecDepth 20000 in
theorem ggX10_box_X10_goesOff : GoodIn wsX10_box wsX10_goesOff := goodIn_r _ [18, 11, 19, 20, 21, 22, 23, 5, 24, 25, 26, 27, 28, 29, 30, 31, 32, 33, 34] (by decide +kernel) (by decide +kernel)
set_option maxRecDepth 20000 in
theorem gX10_box_X10_goesOff : GoodIn wsX10_box (wsV RX10 117 RX10 yX10_goesOff wsX10_goesOff) := goodIn_app (goodIn_of _ (by decide +kernel)) ggX10_box_X10_goesOff
set_option maxRecDepth 20000 in
theorem ggX10_box_X10_in : GoodIn wsX10_box wsX10_in := goodIn_r _ [14] (by decide +kernel) (by decide +kernel)
set_option maxRecDepth 20000 in
theorem gX10_box_X10_in : GoodIn wsX10_box (va_wsS RX10 52 yX10_in wsX10_in) := goodIn_app (goodIn_of _ (by decide +kernel)) ggX10_box_X10_in
set_option maxRecDepth 20000 in
theorem ggX10_box_X10_of : GoodIn wsX10_box wsX10_of := goodIn_r _ [24, 11, 25, 26, 27, 28, 29, 30, 31, 32, 33, 34] (by decide +kernel) (by decide +kernel)
set_option maxRecDepth 20000 in
theorem gX10_box_X10_of : GoodIn wsX10_box (wsV RX10 74 RX10 yX10_of wsX10_of) := goodIn_app (goodIn_of _ (by decide +kernel)) ggX10_box_X10_of
theorem dX10_box_0 : decode cX10_box 0 = .ok (.aload_n 0, 1) := by decide +kernel
theorem dX10_box_1 : decode cX10_box 1 = .ok (.iload_n 1, 1) := by decide +kernel
theorem dX10_box_2 : decode cX10_box 2 = .ok (.invokevirtual 70, 3) := by decide +kernel
theorem dX10_box_5 : decode cX10_box 5 = .ok (.ifCond .ne 5, 3) := by decide +kernel
theorem dX10_box_8 : decode cX10_box 8 = .ok (.iconst (-1), 1) := by decide +kernel
theorem dX10_box_9 : decode cX10_box 9 = .ok (.ireturn, 1) := by decide +kernel
theorem dX10_box_10 : decode cX10_box 10 = .ok (.iload_n 2, 1) := by decide +kernel
theorem dX10_box_11 : decode cX10_box 11 = .ok (.iconst 4, 1) := by decide +kernel
theorem dX10_box_12 : decode cX10_box 12 = .ok (.if_icmp .ne 12, 3) := by decide +kernel
theorem dX10_box_15 : decode cX10_box 15 = .ok (.aload_n 0, 1) := by decide +kernel
theorem dX10_box_16 : decode cX10_box 16 = .ok (.iload_n 1, 1) := by decide +kernel
theorem dX10_box_17 : decode cX10_box 17 = .ok (.invokevirtual 117, 3) := by decide +kernel
theorem dX10_box_20 : decode cX10_box 20 = .ok (.l2i, 1) := by decide +kernel
theorem dX10_box_21 : decode cX10_box 21 = .ok (.goto 27, 3) := by decide +kernel
theorem dX10_box_24 : decode cX10_box 24 = .ok (.iload_n 2, 1) := by decide +kernel
theorem dX10_box_25 : decode cX10_box 25 = .ok (.i2l, 1) := by decide +kernel
theorem dX10_box_26 : decode cX10_box 26 = .ok (.lconst 0, 1) := by decide +kernel
theorem dX10_box_27 : decode cX10_box 27 = .ok (.ldc2_w 169, 3) := by decide +kernel
theorem dX10_box_30 : decode cX10_box 30 = .ok (.invokestatic 52, 3) := by decide +kernel
theorem dX10_box_33 : decode cX10_box 33 = .ok (.ifCond .eq 13, 3) := by decide +kernel
theorem dX10_box_36 : decode cX10_box 36 = .ok (.aload_n 0, 1) := by decide +kernel
theorem dX10_box_37 : decode cX10_box 37 = .ok (.iload_n 1, 1) := by decide +kernel
theorem dX10_box_38 : decode cX10_box 38 = .ok (.iload_n 2, 1) := by decide +kernel
theorem dX10_box_39 : decode cX10_box 39 = .ok (.invokevirtual 74, 3) := by decide +kernel
theorem dX10_box_42 : decode cX10_box 42 = .ok (.l2i, 1) := by decide +kernel
theorem dX10_box_43 : decode cX10_box 43 = .ok (.goto 5, 3) := by decide +kernel
theorem dX10_box_46 : decode cX10_box 46 = .ok (.bipush (-2), 2) := by decide +kernel
theorem dX10_box_48 : decode cX10_box 48 = .ok (.ireturn, 1) := by decide +kernel
set_option maxRecDepth 20000 in
theorem ggX10_minutesLeft_X10_isAway : GoodIn wsX10_minutesLeft wsX10_isAway := goodIn_r _ [6, 1, 7, 8, 9, 10, 11, 12, 13, 14, 15, 16] (by decide +kernel) (by decide +kernel)
set_option maxRecDepth 20000 in
theorem gX10_minutesLeft_X10_isAway : GoodIn wsX10_minutesLeft (wsV RX10 106 RX10 yX10_isAway wsX10_isAway) := goodIn_app (goodIn_of _ (by decide +kernel)) ggX10_minutesLeft_X10_isAway
theorem dX10_minutesLeft_0 : decode cX10_minutesLeft 0 = .ok (.aload_n 0, 1) := by decide +kernel
theorem dX10_minutesLeft_1 : decode cX10_minutesLeft 1 = .ok (.invokevirtual 106, 3) := by decide +kernel
theorem dX10_minutesLeft_4 : decode cX10_minutesLeft 4 = .ok (.ifCond .eq 33, 3) := by decide +kernel
theorem dX10_minutesLeft_7 : decode cX10_minutesLeft 7 = .ok (.aload_n 0, 1) := by decide +kernel
theorem dX10_minutesLeft_8 : decode cX10_minutesLeft 8 = .ok (.getfield 7, 3) := by decide +kernel
theorem dX10_minutesLeft_11 : decode cX10_minutesLeft 11 = .ok (.bipush 40, 2) := by decide +kernel
theorem dX10_minutesLeft_13 : decode cX10_minutesLeft 13 = .ok (.iconst 2, 1) := by decide +kernel
theorem dX10_minutesLeft_14 : decode cX10_minutesLeft 14 = .ok (.aload_n 0, 1) := by decide +kernel
theorem dX10_minutesLeft_15 : decode cX10_minutesLeft 15 = .ok (.getfield 7, 3) := by decide +kernel
theorem dX10_minutesLeft_18 : decode cX10_minutesLeft 18 = .ok (.bipush 84, 2) := by decide +kernel
theorem dX10_minutesLeft_20 : decode cX10_minutesLeft 20 = .ok (.laload, 1) := by decide +kernel
theorem dX10_minutesLeft_21 : decode cX10_minutesLeft 21 = .ok (.l2i, 1) := by decide +kernel
theorem dX10_minutesLeft_22 : decode cX10_minutesLeft 22 = .ok (.imul, 1) := by decide +kernel
theorem dX10_minutesLeft_23 : decode cX10_minutesLeft 23 = .ok (.iadd, 1) := by decide +kernel
theorem dX10_minutesLeft_24 : decode cX10_minutesLeft 24 = .ok (.laload, 1) := by decide +kernel
theorem dX10_minutesLeft_25 : decode cX10_minutesLeft 25 = .ok (.aload_n 0, 1) := by decide +kernel
theorem dX10_minutesLeft_26 : decode cX10_minutesLeft 26 = .ok (.getfield 7, 3) := by decide +kernel
theorem dX10_minutesLeft_29 : decode cX10_minutesLeft 29 = .ok (.bipush 85, 2) := by decide +kernel
theorem dX10_minutesLeft_31 : decode cX10_minutesLeft 31 = .ok (.laload, 1) := by decide +kernel
theorem dX10_minutesLeft_32 : decode cX10_minutesLeft 32 = .ok (.lsub, 1) := by decide +kernel
theorem dX10_minutesLeft_33 : decode cX10_minutesLeft 33 = .ok (.l2i, 1) := by decide +kernel
theorem dX10_minutesLeft_34 : decode cX10_minutesLeft 34 = .ok (.goto 4, 3) := by decide +kernel
theorem dX10_minutesLeft_37 : decode cX10_minutesLeft 37 = .ok (.iconst 0, 1) := by decide +kernel
theorem dX10_minutesLeft_38 : decode cX10_minutesLeft 38 = .ok (.ireturn, 1) := by decide +kernel
set_option maxRecDepth 20000 in
theorem ggX10_van_X10_in : GoodIn wsX10_van wsX10_in := goodIn_r _ [10] (by decide +kernel) (by decide +kernel)
set_option maxRecDepth 20000 in
theorem gX10_van_X10_in : GoodIn wsX10_van (va_wsS RX10 52 yX10_in wsX10_in) := goodIn_app (goodIn_of _ (by decide +kernel)) ggX10_van_X10_in
set_option maxRecDepth 20000 in
theorem ggX10_van_X10_outside : GoodIn wsX10_van wsX10_outside := goodIn_r _ [14, 3, 15, 37, 38, 39, 40, 41, 42, 43, 44, 45, 46] (by decide +kernel) (by decide +kernel)
set_option maxRecDepth 20000 in
theorem gX10_van_X10_outside : GoodIn wsX10_van (wsV RX10 121 RX10 yX10_outside wsX10_outside) := goodIn_app (goodIn_of _ (by decide +kernel)) ggX10_van_X10_outside
set_option maxRecDepth 20000 in
theorem ggX10_van_X10_concentration : GoodIn wsX10_van wsX10_concentration := goodIn_r _ [19, 3, 20, 37, 38, 39, 40, 41, 42, 43, 44, 45, 46] (by decide +kernel) (by decide +kernel)
set_option maxRecDepth 20000 in
theorem gX10_van_X10_concentration : GoodIn wsX10_van (wsV RX10 129 RX10 yX10_concentration wsX10_concentration) := goodIn_app (goodIn_of _ (by decide +kernel)) ggX10_van_X10_concentration
set_option maxRecDepth 20000 in
theorem ggX10_van_X10_minutesLeft : GoodIn wsX10_van wsX10_minutesLeft := goodIn_r _ [24, 3, 25, 26, 27, 9, 28, 37, 38, 39, 40, 41, 42, 43, 44, 45, 46] (by decide +kernel) (by decide +kernel)
set_option maxRecDepth 20000 in
theorem gX10_van_X10_minutesLeft : GoodIn wsX10_van (wsV RX10 176 RX10 yX10_minutesLeft wsX10_minutesLeft) := goodIn_app (goodIn_of _ (by decide +kernel)) ggX10_van_X10_minutesLeft
set_option maxRecDepth 20000 in
theorem ggX10_van_X10_boxes : GoodIn wsX10_van wsX10_boxes := goodIn_r _ [32, 3, 37, 38, 39, 40, 41, 42, 43, 44, 45, 46] (by decide +kernel) (by decide +kernel)
set_option maxRecDepth 20000 in
theorem gX10_van_X10_boxes : GoodIn wsX10_van (wsV RX10 48 RX10 yX10_boxes wsX10_boxes) := goodIn_app (goodIn_of _ (by decide +kernel)) ggX10_van_X10_boxes
set_option maxRecDepth 20000 in
theorem ggX10_van_X10_legs : GoodIn wsX10_van wsX10_legs := goodIn_r _ [36, 3, 37, 38, 39, 40, 41, 42, 43, 44, 45, 46] (by decide +kernel) (by decide +kernel)
set_option maxRecDepth 20000 in
theorem gX10_van_X10_legs : GoodIn wsX10_van (wsV RX10 103 RX10 yX10_legs wsX10_legs) := goodIn_app (goodIn_of _ (by decide +kernel)) ggX10_van_X10_legs
theorem dX10_van_0 : decode cX10_van 0 = .ok (.iload_n 1, 1) := by decide +kernel
theorem dX10_van_1 : decode cX10_van 1 = .ok (.i2l, 1) := by decide +kernel
theorem dX10_van_2 : decode cX10_van 2 = .ok (.ldc2_w 171, 3) := by decide +kernel
theorem dX10_van_5 : decode cX10_van 5 = .ok (.ldc2_w 173, 3) := by decide +kernel
theorem dX10_van_8 : decode cX10_van 8 = .ok (.invokestatic 52, 3) := by decide +kernel
theorem dX10_van_11 : decode cX10_van 11 = .ok (.ifCond .eq 17, 3) := by decide +kernel
theorem dX10_van_14 : decode cX10_van 14 = .ok (.aload_n 0, 1) := by decide +kernel
theorem dX10_van_15 : decode cX10_van 15 = .ok (.getfield 7, 3) := by decide +kernel
theorem dX10_van_18 : decode cX10_van 18 = .ok (.bipush 64, 2) := by decide +kernel
theorem dX10_van_20 : decode cX10_van 20 = .ok (.iload_n 1, 1) := by decide +kernel
theorem dX10_van_21 : decode cX10_van 21 = .ok (.iadd, 1) := by decide +kernel
theorem dX10_van_22 : decode cX10_van 22 = .ok (.bipush 15, 2) := by decide +kernel
theorem dX10_van_24 : decode cX10_van 24 = .ok (.isub, 1) := by decide +kernel
theorem dX10_van_25 : decode cX10_van 25 = .ok (.laload, 1) := by decide +kernel
theorem dX10_van_26 : decode cX10_van 26 = .ok (.l2i, 1) := by decide +kernel
theorem dX10_van_27 : decode cX10_van 27 = .ok (.ireturn, 1) := by decide +kernel
theorem dX10_van_28 : decode cX10_van 28 = .ok (.iload_n 1, 1) := by decide +kernel
theorem dX10_van_29 : decode cX10_van 29 = .ok (.tableswitch 204 0 14 #[75, 84, 93, 99, 108, 113, 122, 131, 140, 149, 175, 180, 189, 194, 199], 75) := by decide +kernel
theorem dX10_van_104 : decode cX10_van 104 = .ok (.aload_n 0, 1) := by decide +kernel
theorem dX10_van_105 : decode cX10_van 105 = .ok (.getfield 7, 3) := by decide +kernel
theorem dX10_van_108 : decode cX10_van 108 = .ok (.bipush 77, 2) := by decide +kernel
theorem dX10_van_110 : decode cX10_van 110 = .ok (.laload, 1) := by decide +kernel
theorem dX10_van_111 : decode cX10_van 111 = .ok (.l2i, 1) := by decide +kernel
theorem dX10_van_112 : decode cX10_van 112 = .ok (.ireturn, 1) := by decide +kernel
theorem dX10_van_113 : decode cX10_van 113 = .ok (.aload_n 0, 1) := by decide +kernel
theorem dX10_van_114 : decode cX10_van 114 = .ok (.getfield 7, 3) := by decide +kernel
theorem dX10_van_117 : decode cX10_van 117 = .ok (.bipush 78, 2) := by decide +kernel
theorem dX10_van_119 : decode cX10_van 119 = .ok (.laload, 1) := by decide +kernel
theorem dX10_van_120 : decode cX10_van 120 = .ok (.l2i, 1) := by decide +kernel
theorem dX10_van_121 : decode cX10_van 121 = .ok (.ireturn, 1) := by decide +kernel
theorem dX10_van_122 : decode cX10_van 122 = .ok (.aload_n 0, 1) := by decide +kernel
theorem dX10_van_123 : decode cX10_van 123 = .ok (.invokevirtual 121, 3) := by decide +kernel
theorem dX10_van_126 : decode cX10_van 126 = .ok (.l2i, 1) := by decide +kernel
theorem dX10_van_127 : decode cX10_van 127 = .ok (.ireturn, 1) := by decide +kernel
theorem dX10_van_128 : decode cX10_van 128 = .ok (.aload_n 0, 1) := by decide +kernel
theorem dX10_van_129 : decode cX10_van 129 = .ok (.getfield 7, 3) := by decide +kernel
theorem dX10_van_132 : decode cX10_van 132 = .ok (.bipush 79, 2) := by decide +kernel
theorem dX10_van_134 : decode cX10_van 134 = .ok (.laload, 1) := by decide +kernel
theorem dX10_van_135 : decode cX10_van 135 = .ok (.l2i, 1) := by decide +kernel
theorem dX10_van_136 : decode cX10_van 136 = .ok (.ireturn, 1) := by decide +kernel
theorem dX10_van_137 : decode cX10_van 137 = .ok (.aload_n 0, 1) := by decide +kernel
theorem dX10_van_138 : decode cX10_van 138 = .ok (.invokevirtual 129, 3) := by decide +kernel
theorem dX10_van_141 : decode cX10_van 141 = .ok (.ireturn, 1) := by decide +kernel
theorem dX10_van_142 : decode cX10_van 142 = .ok (.aload_n 0, 1) := by decide +kernel
theorem dX10_van_143 : decode cX10_van 143 = .ok (.getfield 7, 3) := by decide +kernel
theorem dX10_van_146 : decode cX10_van 146 = .ok (.bipush 80, 2) := by decide +kernel
theorem dX10_van_148 : decode cX10_van 148 = .ok (.laload, 1) := by decide +kernel
theorem dX10_van_149 : decode cX10_van 149 = .ok (.l2i, 1) := by decide +kernel
theorem dX10_van_150 : decode cX10_van 150 = .ok (.ireturn, 1) := by decide +kernel
theorem dX10_van_151 : decode cX10_van 151 = .ok (.aload_n 0, 1) := by decide +kernel
theorem dX10_van_152 : decode cX10_van 152 = .ok (.getfield 7, 3) := by decide +kernel
theorem dX10_van_155 : decode cX10_van 155 = .ok (.bipush 81, 2) := by decide +kernel
theorem dX10_van_157 : decode cX10_van 157 = .ok (.laload, 1) := by decide +kernel
theorem dX10_van_158 : decode cX10_van 158 = .ok (.l2i, 1) := by decide +kernel
theorem dX10_van_159 : decode cX10_van 159 = .ok (.ireturn, 1) := by decide +kernel
theorem dX10_van_160 : decode cX10_van 160 = .ok (.aload_n 0, 1) := by decide +kernel
theorem dX10_van_161 : decode cX10_van 161 = .ok (.getfield 7, 3) := by decide +kernel
theorem dX10_van_164 : decode cX10_van 164 = .ok (.bipush 82, 2) := by decide +kernel
theorem dX10_van_166 : decode cX10_van 166 = .ok (.laload, 1) := by decide +kernel
theorem dX10_van_167 : decode cX10_van 167 = .ok (.l2i, 1) := by decide +kernel
theorem dX10_van_168 : decode cX10_van 168 = .ok (.ireturn, 1) := by decide +kernel
theorem dX10_van_169 : decode cX10_van 169 = .ok (.aload_n 0, 1) := by decide +kernel
theorem dX10_van_170 : decode cX10_van 170 = .ok (.getfield 7, 3) := by decide +kernel
theorem dX10_van_173 : decode cX10_van 173 = .ok (.bipush 83, 2) := by decide +kernel
theorem dX10_van_175 : decode cX10_van 175 = .ok (.laload, 1) := by decide +kernel
theorem dX10_van_176 : decode cX10_van 176 = .ok (.l2i, 1) := by decide +kernel
theorem dX10_van_177 : decode cX10_van 177 = .ok (.ireturn, 1) := by decide +kernel
theorem dX10_van_178 : decode cX10_van 178 = .ok (.aload_n 0, 1) := by decide +kernel
theorem dX10_van_179 : decode cX10_van 179 = .ok (.getfield 7, 3) := by decide +kernel
theorem dX10_van_182 : decode cX10_van 182 = .ok (.bipush 84, 2) := by decide +kernel
theorem dX10_van_184 : decode cX10_van 184 = .ok (.laload, 1) := by decide +kernel
theorem dX10_van_185 : decode cX10_van 185 = .ok (.lconst 0, 1) := by decide +kernel
theorem dX10_van_186 : decode cX10_van 186 = .ok (.lcmp, 1) := by decide +kernel
theorem dX10_van_187 : decode cX10_van 187 = .ok (.ifCond .ge 8, 3) := by decide +kernel
theorem dX10_van_190 : decode cX10_van 190 = .ok (.ldc 175, 2) := by decide +kernel
theorem dX10_van_192 : decode cX10_van 192 = .ok (.goto 11, 3) := by decide +kernel
theorem dX10_van_195 : decode cX10_van 195 = .ok (.aload_n 0, 1) := by decide +kernel
theorem dX10_van_196 : decode cX10_van 196 = .ok (.getfield 7, 3) := by decide +kernel
theorem dX10_van_199 : decode cX10_van 199 = .ok (.bipush 84, 2) := by decide +kernel
theorem dX10_van_201 : decode cX10_van 201 = .ok (.laload, 1) := by decide +kernel
theorem dX10_van_202 : decode cX10_van 202 = .ok (.l2i, 1) := by decide +kernel
theorem dX10_van_203 : decode cX10_van 203 = .ok (.ireturn, 1) := by decide +kernel
theorem dX10_van_204 : decode cX10_van 204 = .ok (.aload_n 0, 1) := by decide +kernel
theorem dX10_van_205 : decode cX10_van 205 = .ok (.invokevirtual 176, 3) := by decide +kernel
theorem dX10_van_208 : decode cX10_van 208 = .ok (.ireturn, 1) := by decide +kernel
theorem dX10_van_209 : decode cX10_van 209 = .ok (.aload_n 0, 1) := by decide +kernel
theorem dX10_van_210 : decode cX10_van 210 = .ok (.getfield 7, 3) := by decide +kernel
theorem dX10_van_213 : decode cX10_van 213 = .ok (.bipush 87, 2) := by decide +kernel
theorem dX10_van_215 : decode cX10_van 215 = .ok (.laload, 1) := by decide +kernel
theorem dX10_van_216 : decode cX10_van 216 = .ok (.l2i, 1) := by decide +kernel
theorem dX10_van_217 : decode cX10_van 217 = .ok (.ireturn, 1) := by decide +kernel
theorem dX10_van_218 : decode cX10_van 218 = .ok (.aload_n 0, 1) := by decide +kernel
theorem dX10_van_219 : decode cX10_van 219 = .ok (.invokevirtual 48, 3) := by decide +kernel
theorem dX10_van_222 : decode cX10_van 222 = .ok (.ireturn, 1) := by decide +kernel
theorem dX10_van_223 : decode cX10_van 223 = .ok (.aload_n 0, 1) := by decide +kernel
theorem dX10_van_224 : decode cX10_van 224 = .ok (.invokevirtual 103, 3) := by decide +kernel
theorem dX10_van_227 : decode cX10_van 227 = .ok (.ireturn, 1) := by decide +kernel
theorem dX10_van_228 : decode cX10_van 228 = .ok (.aload_n 0, 1) := by decide +kernel
theorem dX10_van_229 : decode cX10_van 229 = .ok (.getfield 179, 3) := by decide +kernel
theorem dX10_van_232 : decode cX10_van 232 = .ok (.ireturn, 1) := by decide +kernel
theorem dX10_van_233 : decode cX10_van 233 = .ok (.ldc 183, 2) := by decide +kernel
theorem dX10_van_235 : decode cX10_van 235 = .ok (.ireturn, 1) := by decide +kernel
set_option maxRecDepth 20000 in
theorem ggX10_way_X10_legs : GoodIn wsX10_way wsX10_legs := goodIn_r _ [8, 2, 12, 13, 14, 15, 16, 17, 18, 19, 20, 21] (by decide +kernel) (by decide +kernel)
set_option maxRecDepth 20000 in
theorem gX10_way_X10_legs : GoodIn wsX10_way (wsV RX10 103 RX10 yX10_legs wsX10_legs) := goodIn_app (goodIn_of _ (by decide +kernel)) ggX10_way_X10_legs
set_option maxRecDepth 20000 in
theorem ggX10_way_X10_in : GoodIn wsX10_way wsX10_in := goodIn_r _ [11] (by decide +kernel) (by decide +kernel)
set_option maxRecDepth 20000 in
theorem gX10_way_X10_in : GoodIn wsX10_way (va_wsS RX10 52 yX10_in wsX10_in) := goodIn_app (goodIn_of _ (by decide +kernel)) ggX10_way_X10_in
theorem dX10_way_0 : decode cX10_way 0 = .ok (.iload_n 1, 1) := by decide +kernel
theorem dX10_way_1 : decode cX10_way 1 = .ok (.i2l, 1) := by decide +kernel
theorem dX10_way_2 : decode cX10_way 2 = .ok (.lconst 0, 1) := by decide +kernel
theorem dX10_way_3 : decode cX10_way 3 = .ok (.aload_n 0, 1) := by decide +kernel
theorem dX10_way_4 : decode cX10_way 4 = .ok (.invokevirtual 103, 3) := by decide +kernel
theorem dX10_way_7 : decode cX10_way 7 = .ok (.iconst 1, 1) := by decide +kernel
theorem dX10_way_8 : decode cX10_way 8 = .ok (.isub, 1) := by decide +kernel
theorem dX10_way_9 : decode cX10_way 9 = .ok (.i2l, 1) := by decide +kernel
theorem dX10_way_10 : decode cX10_way 10 = .ok (.invokestatic 52, 3) := by decide +kernel
theorem dX10_way_13 : decode cX10_way 13 = .ok (.ifCond .ne 6, 3) := by decide +kernel
theorem dX10_way_16 : decode cX10_way 16 = .ok (.ldc 167, 2) := by decide +kernel
theorem dX10_way_18 : decode cX10_way 18 = .ok (.ireturn, 1) := by decide +kernel
theorem dX10_way_19 : decode cX10_way 19 = .ok (.iload_n 2, 1) := by decide +kernel
theorem dX10_way_20 : decode cX10_way 20 = .ok (.i2l, 1) := by decide +kernel
theorem dX10_way_21 : decode cX10_way 21 = .ok (.lconst 0, 1) := by decide +kernel
theorem dX10_way_22 : decode cX10_way 22 = .ok (.lconst 1, 1) := by decide +kernel
theorem dX10_way_23 : decode cX10_way 23 = .ok (.invokestatic 52, 3) := by decide +kernel
theorem dX10_way_26 : decode cX10_way 26 = .ok (.ifCond .eq 20, 3) := by decide +kernel
theorem dX10_way_29 : decode cX10_way 29 = .ok (.aload_n 0, 1) := by decide +kernel
theorem dX10_way_30 : decode cX10_way 30 = .ok (.getfield 7, 3) := by decide +kernel
theorem dX10_way_33 : decode cX10_way 33 = .ok (.bipush 40, 2) := by decide +kernel
theorem dX10_way_35 : decode cX10_way 35 = .ok (.iconst 2, 1) := by decide +kernel
theorem dX10_way_36 : decode cX10_way 36 = .ok (.iload_n 1, 1) := by decide +kernel
theorem dX10_way_37 : decode cX10_way 37 = .ok (.imul, 1) := by decide +kernel
theorem dX10_way_38 : decode cX10_way 38 = .ok (.iadd, 1) := by decide +kernel
theorem dX10_way_39 : decode cX10_way 39 = .ok (.iload_n 2, 1) := by decide +kernel
theorem dX10_way_40 : decode cX10_way 40 = .ok (.iadd, 1) := by decide +kernel
theorem dX10_way_41 : decode cX10_way 41 = .ok (.laload, 1) := by decide +kernel
theorem dX10_way_42 : decode cX10_way 42 = .ok (.l2i, 1) := by decide +kernel
theorem dX10_way_43 : decode cX10_way 43 = .ok (.goto 5, 3) := by decide +kernel
theorem dX10_way_46 : decode cX10_way 46 = .ok (.ldc 183, 2) := by decide +kernel
theorem dX10_way_48 : decode cX10_way 48 = .ok (.ireturn, 1) := by decide +kernel
set_option maxRecDepth 20000 in
theorem ggX10_account_X10_allIce : GoodIn wsX10_account wsX10_allIce := goodIn_r _ [8, 9, 10, 11, 7, 12, 2, 13, 14, 15, 16, 20, 21, 22, 23, 24, 25, 26, 27, 28, 29] (by decide +kernel) (by decide +kernel)
set_option maxRecDepth 20000 in
theorem gX10_account_X10_allIce : GoodIn wsX10_account (wsV RX10 160 RX10 yX10_allIce wsX10_allIce) := goodIn_app (goodIn_of _ (by decide +kernel)) ggX10_account_X10_allIce
set_option maxRecDepth 20000 in
theorem ggX10_account_X10_in : GoodIn wsX10_account wsX10_in := goodIn_r _ [19] (by decide +kernel) (by decide +kernel)
set_option maxRecDepth 20000 in
theorem gX10_account_X10_in : GoodIn wsX10_account (va_wsS RX10 52 yX10_in wsX10_in) := goodIn_app (goodIn_of _ (by decide +kernel)) ggX10_account_X10_in
theorem dX10_account_0 : decode cX10_account 0 = .ok (.iload_n 1, 1) := by decide +kernel
theorem dX10_account_1 : decode cX10_account 1 = .ok (.ifCond .ne 10, 3) := by decide +kernel
theorem dX10_account_4 : decode cX10_account 4 = .ok (.aload_n 0, 1) := by decide +kernel
theorem dX10_account_5 : decode cX10_account 5 = .ok (.invokevirtual 160, 3) := by decide +kernel
theorem dX10_account_8 : decode cX10_account 8 = .ok (.goto 32, 3) := by decide +kernel
theorem dX10_account_11 : decode cX10_account 11 = .ok (.iload_n 1, 1) := by decide +kernel
theorem dX10_account_12 : decode cX10_account 12 = .ok (.i2l, 1) := by decide +kernel
theorem dX10_account_13 : decode cX10_account 13 = .ok (.lconst 1, 1) := by decide +kernel
theorem dX10_account_14 : decode cX10_account 14 = .ok (.ldc2_w 38, 3) := by decide +kernel
theorem dX10_account_17 : decode cX10_account 17 = .ok (.invokestatic 52, 3) := by decide +kernel
theorem dX10_account_20 : decode cX10_account 20 = .ok (.ifCond .eq 17, 3) := by decide +kernel
theorem dX10_account_23 : decode cX10_account 23 = .ok (.aload_n 0, 1) := by decide +kernel
theorem dX10_account_24 : decode cX10_account 24 = .ok (.getfield 7, 3) := by decide +kernel
theorem dX10_account_27 : decode cX10_account 27 = .ok (.bipush 88, 2) := by decide +kernel
theorem dX10_account_29 : decode cX10_account 29 = .ok (.iload_n 1, 1) := by decide +kernel
theorem dX10_account_30 : decode cX10_account 30 = .ok (.iadd, 1) := by decide +kernel
theorem dX10_account_31 : decode cX10_account 31 = .ok (.iconst 1, 1) := by decide +kernel
theorem dX10_account_32 : decode cX10_account 32 = .ok (.isub, 1) := by decide +kernel
theorem dX10_account_33 : decode cX10_account 33 = .ok (.laload, 1) := by decide +kernel
theorem dX10_account_34 : decode cX10_account 34 = .ok (.goto 6, 3) := by decide +kernel
theorem dX10_account_37 : decode cX10_account 37 = .ok (.ldc2_w 184, 3) := by decide +kernel
theorem dX10_account_40 : decode cX10_account 40 = .ok (.lreturn, 1) := by decide +kernel
set_option maxRecDepth 20000 in
theorem ggX10_goToStop_X10_isAway : GoodIn wsX10_goToStop wsX10_isAway := goodIn_r _ [5, 6, 70, 71, 72, 73, 74, 75, 76, 77, 78, 79] (by decide +kernel) (by decide +kernel)
set_option maxRecDepth 20000 in
theorem gX10_goToStop_X10_isAway : GoodIn wsX10_goToStop (wsV RX10 106 RX10 yX10_isAway wsX10_isAway) := goodIn_app (goodIn_of _ (by decide +kernel)) ggX10_goToStop_X10_isAway
set_option maxRecDepth 20000 in
theorem ggX10_goToStop_X10_makeMinute : GoodIn wsX10_goToStop wsX10_makeMinute := goodIn_r _ [10, 6, 11, 12, 13, 4, 14, 15, 16, 17, 18, 19, 20, 21, 22, 23, 24, 25, 26, 27, 28, 29, 30, 31, 32, 33, 34, 35, 36, 37, 38, 39, 40, 41, 42, 43, 44, 45, 46, 47, 48, 49, 50, 51, 52, 53, 54, 55, 56, 57, 58, 59, 60, 61, 62, 63, 64, 65, 66, 67, 68, 69, 1, 2, 3, 5, 70, 71, 72, 73, 74, 75, 76, 77, 78, 79] (by decide +kernel) (by decide +kernel)
set_option maxRecDepth 20000 in
theorem gX10_goToStop_X10_makeMinute : GoodIn wsX10_goToStop (wsV RX10 151 RX10 yX10_makeMinute wsX10_makeMinute) := goodIn_app (goodIn_of _ (by decide +kernel)) ggX10_goToStop_X10_makeMinute
theorem dX10_goToStop_0 : decode cX10_goToStop 0 = .ok (.aload_n 0, 1) := by decide +kernel
theorem dX10_goToStop_1 : decode cX10_goToStop 1 = .ok (.invokevirtual 106, 3) := by decide +kernel
theorem dX10_goToStop_4 : decode cX10_goToStop 4 = .ok (.ifCond .eq 10, 3) := by decide +kernel
theorem dX10_goToStop_7 : decode cX10_goToStop 7 = .ok (.aload_n 0, 1) := by decide +kernel
theorem dX10_goToStop_8 : decode cX10_goToStop 8 = .ok (.invokevirtual 151, 3) := by decide +kernel
theorem dX10_goToStop_11 : decode cX10_goToStop 11 = .ok (.goto (-11), 3) := by decide +kernel
theorem dX10_goToStop_14 : decode cX10_goToStop 14 = .ok (.return_, 1) := by decide +kernel
set_option maxRecDepth 20000 in
theorem ggX10_stay_X10_makeMinute : GoodIn wsX10_stay wsX10_makeMinute := goodIn_r _ [5, 6, 7, 8, 9, 4, 10, 11, 12, 13, 14, 15, 16, 17, 18, 19, 20, 21, 22, 23, 24, 25, 26, 27, 28, 29, 30, 31, 32, 33, 34, 35, 36, 37, 38, 39, 40, 41, 42, 43, 44, 45, 46, 47, 48, 49, 50, 51, 52, 53, 54, 55, 56, 57, 58, 59, 60, 61, 62, 63, 64, 65, 66, 67, 68, 69, 70, 71, 72, 73, 74, 75, 76, 77, 78, 79] (by decide +kernel) (by decide +kernel)
set_option maxRecDepth 20000 in
theorem gX10_stay_X10_makeMinute : GoodIn wsX10_stay (wsV RX10 151 RX10 yX10_makeMinute wsX10_makeMinute) := goodIn_app (goodIn_of _ (by decide +kernel)) ggX10_stay_X10_makeMinute
theorem dX10_stay_0 : decode cX10_stay 0 = .ok (.iconst 0, 1) := by decide +kernel
theorem dX10_stay_1 : decode cX10_stay 1 = .ok (.istore_n 2, 1) := by decide +kernel
theorem dX10_stay_2 : decode cX10_stay 2 = .ok (.iload_n 2, 1) := by decide +kernel
theorem dX10_stay_3 : decode cX10_stay 3 = .ok (.iload_n 1, 1) := by decide +kernel
theorem dX10_stay_4 : decode cX10_stay 4 = .ok (.if_icmp .ge 13, 3) := by decide +kernel
theorem dX10_stay_7 : decode cX10_stay 7 = .ok (.aload_n 0, 1) := by decide +kernel
theorem dX10_stay_8 : decode cX10_stay 8 = .ok (.invokevirtual 151, 3) := by decide +kernel
theorem dX10_stay_11 : decode cX10_stay 11 = .ok (.iinc 2 1, 3) := by decide +kernel
theorem dX10_stay_14 : decode cX10_stay 14 = .ok (.goto (-12), 3) := by decide +kernel
theorem dX10_stay_17 : decode cX10_stay 17 = .ok (.return_, 1) := by decide +kernel
set_option maxRecDepth 20000 in
theorem ggX10_atEnd_X10_isBox : GoodIn wsX10_atEnd wsX10_isBox := goodIn_r _ [7, 8, 9, 10, 6, 11, 2, 12, 13, 14, 106, 107, 108, 109, 110, 111, 112, 113, 114, 115] (by decide +kernel) (by decide +kernel)
set_option maxRecDepth 20000 in
theorem gX10_atEnd_X10_isBox : GoodIn wsX10_atEnd (wsV RX10 70 RX10 yX10_isBox wsX10_isBox) := goodIn_app (goodIn_of _ (by decide +kernel)) ggX10_atEnd_X10_isBox
set_option maxRecDepth 20000 in
theorem ggX10_atEnd_X10_in : GoodIn wsX10_atEnd wsX10_in := goodIn_r _ [14] (by decide +kernel) (by decide +kernel)
set_option maxRecDepth 20000 in
theorem gX10_atEnd_X10_in : GoodIn wsX10_atEnd (va_wsS RX10 52 yX10_in wsX10_in) := goodIn_app (goodIn_of _ (by decide +kernel)) ggX10_atEnd_X10_in
set_option maxRecDepth 20000 in
theorem ggX10_atEnd_X10_putAside : GoodIn wsX10_atEnd wsX10_putAside := goodIn_r _ [18, 19, 2, 106, 107, 108, 109, 110, 111, 112, 113, 114, 115] (by decide +kernel) (by decide +kernel)
set_option maxRecDepth 20000 in
theorem gX10_atEnd_X10_putAside : GoodIn wsX10_atEnd (wsV RX10 186 RX10 yX10_putAside wsX10_putAside) := goodIn_app (goodIn_of _ (by decide +kernel)) ggX10_atEnd_X10_putAside
set_option maxRecDepth 20000 in
theorem ggX10_atEnd_X10_isAway : GoodIn wsX10_atEnd wsX10_isAway := goodIn_r _ [23, 2, 106, 107, 108, 109, 110, 111, 112, 113, 114, 115] (by decide +kernel) (by decide +kernel)
set_option maxRecDepth 20000 in
theorem gX10_atEnd_X10_isAway : GoodIn wsX10_atEnd (wsV RX10 106 RX10 yX10_isAway wsX10_isAway) := goodIn_app (goodIn_of _ (by decide +kernel)) ggX10_atEnd_X10_isAway
set_option maxRecDepth 20000 in
theorem ggX10_atEnd_X10_goToStop : GoodIn wsX10_atEnd wsX10_goToStop := goodIn_r _ [27, 20, 21, 22, 6, 23, 2, 28, 29, 30, 31, 32, 33, 34, 35, 8, 9, 10, 11, 36, 37, 38, 39, 40, 1, 41, 42, 43, 44, 45, 46, 47, 48, 49, 50, 51, 52, 53, 54, 55, 56, 57, 58, 59, 60, 61, 62, 63, 64, 65, 66, 67, 68, 69, 70, 71, 72, 73, 74, 75, 76, 77, 78, 79, 80, 81, 82, 83, 84, 85, 106, 107, 108, 109, 110, 111, 112, 113, 114, 115] (by decide +kernel) (by decide +kernel)
set_option maxRecDepth 20000 in
theorem gX10_atEnd_X10_goToStop : GoodIn wsX10_atEnd (wsV RX10 189 RX10 yX10_goToStop wsX10_goToStop) := goodIn_app (goodIn_of _ (by decide +kernel)) ggX10_atEnd_X10_goToStop
set_option maxRecDepth 20000 in
theorem ggX10_atEnd_X10_hasNext : GoodIn wsX10_atEnd wsX10_hasNext := goodIn_r _ [89, 2, 90, 91, 92, 6, 93, 106, 107, 108, 109, 110, 111, 112, 113, 114, 115] (by decide +kernel) (by decide +kernel)
set_option maxRecDepth 20000 in
theorem gX10_atEnd_X10_hasNext : GoodIn wsX10_atEnd (wsV RX10 109 RX10 yX10_hasNext wsX10_hasNext) := goodIn_app (goodIn_of _ (by decide +kernel)) ggX10_atEnd_X10_hasNext
set_option maxRecDepth 20000 in
theorem ggX10_atEnd_X10_stay : GoodIn wsX10_atEnd wsX10_stay := goodIn_r _ [97, 28, 29, 30, 6, 31, 2, 32, 33, 34, 35, 8, 9, 10, 11, 36, 37, 38, 39, 40, 1, 41, 42, 43, 44, 45, 46, 47, 48, 49, 50, 51, 52, 53, 54, 55, 56, 57, 58, 59, 60, 61, 62, 63, 64, 65, 66, 67, 68, 69, 70, 71, 72, 73, 74, 75, 76, 77, 78, 79, 80, 81, 82, 83, 84, 85, 20, 21, 22, 23, 106, 107, 108, 109, 110, 111, 112, 113, 114, 115] (by decide +kernel) (by decide +kernel)
set_option maxRecDepth 20000 in
theorem gX10_atEnd_X10_stay : GoodIn wsX10_atEnd (wsV RX10 192 RX10 yX10_stay wsX10_stay) := goodIn_app (goodIn_of _ (by decide +kernel)) ggX10_atEnd_X10_stay
set_option maxRecDepth 20000 in
theorem ggX10_atEnd_X10_begin : GoodIn wsX10_atEnd wsX10_begin := goodIn_r _ [101, 2, 106, 107, 108, 109, 110, 111, 112, 113, 114, 115] (by decide +kernel) (by decide +kernel)
set_option maxRecDepth 20000 in
theorem gX10_atEnd_X10_begin : GoodIn wsX10_atEnd (wsV RX10 112 RX10 yX10_begin wsX10_begin) := goodIn_app (goodIn_of _ (by decide +kernel)) ggX10_atEnd_X10_begin
set_option maxRecDepth 20000 in
theorem ggX10_atEnd_X10_of : GoodIn wsX10_atEnd wsX10_of := goodIn_r _ [44, 2, 106, 107, 108, 109, 110, 111, 112, 113, 114, 115] (by decide +kernel) (by decide +kernel)
set_option maxRecDepth 20000 in
theorem gX10_atEnd_X10_of : GoodIn wsX10_atEnd (wsV RX10 74 RX10 yX10_of wsX10_of) := goodIn_app (goodIn_of _ (by decide +kernel)) ggX10_atEnd_X10_of
set_option maxRecDepth 20000 in
theorem ggX10_atEnd_X10_putBack : GoodIn wsX10_atEnd wsX10_putBack := goodIn_r _ [105, 2, 19, 106, 107, 108, 109, 110, 111, 112, 113, 114, 115] (by decide +kernel) (by decide +kernel)
set_option maxRecDepth 20000 in
theorem gX10_atEnd_X10_putBack : GoodIn wsX10_atEnd (wsV RX10 195 RX10 yX10_putBack wsX10_putBack) := goodIn_app (goodIn_of _ (by decide +kernel)) ggX10_atEnd_X10_putBack
theorem dX10_atEnd_0 : decode cX10_atEnd 0 = .ok (.aload_n 0, 1) := by decide +kernel
theorem dX10_atEnd_1 : decode cX10_atEnd 1 = .ok (.iload_n 1, 1) := by decide +kernel
theorem dX10_atEnd_2 : decode cX10_atEnd 2 = .ok (.invokevirtual 70, 3) := by decide +kernel
theorem dX10_atEnd_5 : decode cX10_atEnd 5 = .ok (.ifCond .ne 5, 3) := by decide +kernel
theorem dX10_atEnd_8 : decode cX10_atEnd 8 = .ok (.iconst (-1), 1) := by decide +kernel
theorem dX10_atEnd_9 : decode cX10_atEnd 9 = .ok (.ireturn, 1) := by decide +kernel
theorem dX10_atEnd_10 : decode cX10_atEnd 10 = .ok (.iload_n 2, 1) := by decide +kernel
theorem dX10_atEnd_11 : decode cX10_atEnd 11 = .ok (.i2l, 1) := by decide +kernel
theorem dX10_atEnd_12 : decode cX10_atEnd 12 = .ok (.lconst 0, 1) := by decide +kernel
theorem dX10_atEnd_13 : decode cX10_atEnd 13 = .ok (.ldc2_w 34, 3) := by decide +kernel
theorem dX10_atEnd_16 : decode cX10_atEnd 16 = .ok (.invokestatic 52, 3) := by decide +kernel
theorem dX10_atEnd_19 : decode cX10_atEnd 19 = .ok (.ifCond .ne 6, 3) := by decide +kernel
theorem dX10_atEnd_22 : decode cX10_atEnd 22 = .ok (.bipush (-2), 2) := by decide +kernel
theorem dX10_atEnd_24 : decode cX10_atEnd 24 = .ok (.ireturn, 1) := by decide +kernel
theorem dX10_atEnd_25 : decode cX10_atEnd 25 = .ok (.aload_n 0, 1) := by decide +kernel
theorem dX10_atEnd_26 : decode cX10_atEnd 26 = .ok (.invokevirtual 186, 3) := by decide +kernel
theorem dX10_atEnd_29 : decode cX10_atEnd 29 = .ok (.aload_n 0, 1) := by decide +kernel
theorem dX10_atEnd_30 : decode cX10_atEnd 30 = .ok (.getfield 7, 3) := by decide +kernel
theorem dX10_atEnd_33 : decode cX10_atEnd 33 = .ok (.bipush 83, 2) := by decide +kernel
theorem dX10_atEnd_35 : decode cX10_atEnd 35 = .ok (.lconst 0, 1) := by decide +kernel
theorem dX10_atEnd_36 : decode cX10_atEnd 36 = .ok (.lastore, 1) := by decide +kernel
theorem dX10_atEnd_37 : decode cX10_atEnd 37 = .ok (.aload_n 0, 1) := by decide +kernel
theorem dX10_atEnd_38 : decode cX10_atEnd 38 = .ok (.invokevirtual 106, 3) := by decide +kernel
theorem dX10_atEnd_41 : decode cX10_atEnd 41 = .ok (.istore_n 3, 1) := by decide +kernel
theorem dX10_atEnd_42 : decode cX10_atEnd 42 = .ok (.aload_n 0, 1) := by decide +kernel
theorem dX10_atEnd_43 : decode cX10_atEnd 43 = .ok (.invokevirtual 189, 3) := by decide +kernel
theorem dX10_atEnd_46 : decode cX10_atEnd 46 = .ok (.aload_n 0, 1) := by decide +kernel
theorem dX10_atEnd_47 : decode cX10_atEnd 47 = .ok (.invokevirtual 109, 3) := by decide +kernel
theorem dX10_atEnd_50 : decode cX10_atEnd 50 = .ok (.ifCond .eq 29, 3) := by decide +kernel
theorem dX10_atEnd_53 : decode cX10_atEnd 53 = .ok (.aload_n 0, 1) := by decide +kernel
theorem dX10_atEnd_54 : decode cX10_atEnd 54 = .ok (.iload_n 3, 1) := by decide +kernel
theorem dX10_atEnd_55 : decode cX10_atEnd 55 = .ok (.ifCond .eq 7, 3) := by decide +kernel
theorem dX10_atEnd_58 : decode cX10_atEnd 58 = .ok (.iload_n 2, 1) := by decide +kernel
theorem dX10_atEnd_59 : decode cX10_atEnd 59 = .ok (.goto 4, 3) := by decide +kernel
theorem dX10_atEnd_62 : decode cX10_atEnd 62 = .ok (.iconst 0, 1) := by decide +kernel
theorem dX10_atEnd_63 : decode cX10_atEnd 63 = .ok (.invokevirtual 192, 3) := by decide +kernel
theorem dX10_atEnd_66 : decode cX10_atEnd 66 = .ok (.aload_n 0, 1) := by decide +kernel
theorem dX10_atEnd_67 : decode cX10_atEnd 67 = .ok (.invokevirtual 112, 3) := by decide +kernel
theorem dX10_atEnd_70 : decode cX10_atEnd 70 = .ok (.aload_n 0, 1) := by decide +kernel
theorem dX10_atEnd_71 : decode cX10_atEnd 71 = .ok (.invokevirtual 189, 3) := by decide +kernel
theorem dX10_atEnd_74 : decode cX10_atEnd 74 = .ok (.iconst 1, 1) := by decide +kernel
theorem dX10_atEnd_75 : decode cX10_atEnd 75 = .ok (.istore_n 3, 1) := by decide +kernel
theorem dX10_atEnd_76 : decode cX10_atEnd 76 = .ok (.goto (-30), 3) := by decide +kernel
theorem dX10_atEnd_79 : decode cX10_atEnd 79 = .ok (.aload_n 0, 1) := by decide +kernel
theorem dX10_atEnd_80 : decode cX10_atEnd 80 = .ok (.iload_n 1, 1) := by decide +kernel
theorem dX10_atEnd_81 : decode cX10_atEnd 81 = .ok (.iconst 2, 1) := by decide +kernel
theorem dX10_atEnd_82 : decode cX10_atEnd 82 = .ok (.invokevirtual 74, 3) := by decide +kernel
theorem dX10_atEnd_85 : decode cX10_atEnd 85 = .ok (.l2i, 1) := by decide +kernel
theorem dX10_atEnd_86 : decode cX10_atEnd 86 = .ok (.istore 4, 2) := by decide +kernel
theorem dX10_atEnd_88 : decode cX10_atEnd 88 = .ok (.aload_n 0, 1) := by decide +kernel
theorem dX10_atEnd_89 : decode cX10_atEnd 89 = .ok (.invokevirtual 195, 3) := by decide +kernel
theorem dX10_atEnd_92 : decode cX10_atEnd 92 = .ok (.iload 4, 2) := by decide +kernel
theorem dX10_atEnd_94 : decode cX10_atEnd 94 = .ok (.ireturn, 1) := by decide +kernel
set_option maxRecDepth 20000 in
theorem ggX10_worst_X10_in : GoodIn wsX10_worst wsX10_in := goodIn_r _ [5] (by decide +kernel) (by decide +kernel)
set_option maxRecDepth 20000 in
theorem gX10_worst_X10_in : GoodIn wsX10_worst (va_wsS RX10 52 yX10_in wsX10_in) := goodIn_app (goodIn_of _ (by decide +kernel)) ggX10_worst_X10_in
set_option maxRecDepth 20000 in
theorem ggX10_worst_X10_putAside : GoodIn wsX10_worst wsX10_putAside := goodIn_r _ [9, 10, 11, 82, 83, 84, 85, 86, 87, 88, 89, 90, 91] (by decide +kernel) (by decide +kernel)
set_option maxRecDepth 20000 in
theorem gX10_worst_X10_putAside : GoodIn wsX10_worst (wsV RX10 186 RX10 yX10_putAside wsX10_putAside) := goodIn_app (goodIn_of _ (by decide +kernel)) ggX10_worst_X10_putAside
set_option maxRecDepth 20000 in
theorem ggX10_worst_X10_makeMinute : GoodIn wsX10_worst wsX10_makeMinute := goodIn_r _ [15, 11, 16, 17, 18, 4, 19, 20, 21, 22, 23, 24, 25, 26, 27, 28, 29, 30, 31, 32, 33, 34, 35, 36, 37, 38, 39, 40, 41, 42, 43, 44, 45, 46, 47, 48, 49, 50, 51, 52, 53, 54, 55, 56, 1, 57, 58, 59, 60, 61, 62, 63, 64, 65, 66, 67, 68, 69, 70, 71, 72, 73, 74, 75, 76, 77, 82, 83, 84, 85, 86, 87, 88, 89, 90, 91] (by decide +kernel) (by decide +kernel)
set_option maxRecDepth 20000 in
theorem gX10_worst_X10_makeMinute : GoodIn wsX10_worst (wsV RX10 151 RX10 yX10_makeMinute wsX10_makeMinute) := goodIn_app (goodIn_of _ (by decide +kernel)) ggX10_worst_X10_makeMinute
set_option maxRecDepth 20000 in
theorem ggX10_worst_X10_concentration : GoodIn wsX10_worst wsX10_concentration := goodIn_r _ [65, 11, 61, 82, 83, 84, 85, 86, 87, 88, 89, 90, 91] (by decide +kernel) (by decide +kernel)
set_option maxRecDepth 20000 in
theorem gX10_worst_X10_concentration : GoodIn wsX10_worst (wsV RX10 129 RX10 yX10_concentration wsX10_concentration) := goodIn_app (goodIn_of _ (by decide +kernel)) ggX10_worst_X10_concentration
set_option maxRecDepth 20000 in
theorem ggX10_worst_X10_putBack : GoodIn wsX10_worst wsX10_putBack := goodIn_r _ [81, 11, 10, 82, 83, 84, 85, 86, 87, 88, 89, 90, 91] (by decide +kernel) (by decide +kernel)
set_option maxRecDepth 20000 in
theorem gX10_worst_X10_putBack : GoodIn wsX10_worst (wsV RX10 195 RX10 yX10_putBack wsX10_putBack) := goodIn_app (goodIn_of _ (by decide +kernel)) ggX10_worst_X10_putBack
theorem dX10_worst_0 : decode cX10_worst 0 = .ok (.iload_n 1, 1) := by decide +kernel
theorem dX10_worst_1 : decode cX10_worst 1 = .ok (.i2l, 1) := by decide +kernel
theorem dX10_worst_2 : decode cX10_worst 2 = .ok (.lconst 1, 1) := by decide +kernel
theorem dX10_worst_3 : decode cX10_worst 3 = .ok (.ldc2_w 44, 3) := by decide +kernel
theorem dX10_worst_6 : decode cX10_worst 6 = .ok (.invokestatic 52, 3) := by decide +kernel
theorem dX10_worst_9 : decode cX10_worst 9 = .ok (.ifCond .ne 6, 3) := by decide +kernel
theorem dX10_worst_12 : decode cX10_worst 12 = .ok (.bipush (-2), 2) := by decide +kernel
theorem dX10_worst_14 : decode cX10_worst 14 = .ok (.ireturn, 1) := by decide +kernel
theorem dX10_worst_15 : decode cX10_worst 15 = .ok (.aload_n 0, 1) := by decide +kernel
theorem dX10_worst_16 : decode cX10_worst 16 = .ok (.invokevirtual 186, 3) := by decide +kernel
theorem dX10_worst_19 : decode cX10_worst 19 = .ok (.iconst 0, 1) := by decide +kernel
theorem dX10_worst_20 : decode cX10_worst 20 = .ok (.istore_n 2, 1) := by decide +kernel
theorem dX10_worst_21 : decode cX10_worst 21 = .ok (.iconst 0, 1) := by decide +kernel
theorem dX10_worst_22 : decode cX10_worst 22 = .ok (.istore_n 3, 1) := by decide +kernel
theorem dX10_worst_23 : decode cX10_worst 23 = .ok (.iload_n 3, 1) := by decide +kernel
theorem dX10_worst_24 : decode cX10_worst 24 = .ok (.iload_n 1, 1) := by decide +kernel
theorem dX10_worst_25 : decode cX10_worst 25 = .ok (.if_icmp .ge 30, 3) := by decide +kernel
theorem dX10_worst_28 : decode cX10_worst 28 = .ok (.aload_n 0, 1) := by decide +kernel
theorem dX10_worst_29 : decode cX10_worst 29 = .ok (.invokevirtual 151, 3) := by decide +kernel
theorem dX10_worst_32 : decode cX10_worst 32 = .ok (.aload_n 0, 1) := by decide +kernel
theorem dX10_worst_33 : decode cX10_worst 33 = .ok (.invokevirtual 129, 3) := by decide +kernel
theorem dX10_worst_36 : decode cX10_worst 36 = .ok (.iload_n 2, 1) := by decide +kernel
theorem dX10_worst_37 : decode cX10_worst 37 = .ok (.if_icmp .le 10, 3) := by decide +kernel
theorem dX10_worst_40 : decode cX10_worst 40 = .ok (.aload_n 0, 1) := by decide +kernel
theorem dX10_worst_41 : decode cX10_worst 41 = .ok (.invokevirtual 129, 3) := by decide +kernel
theorem dX10_worst_44 : decode cX10_worst 44 = .ok (.goto 4, 3) := by decide +kernel
theorem dX10_worst_47 : decode cX10_worst 47 = .ok (.iload_n 2, 1) := by decide +kernel
theorem dX10_worst_48 : decode cX10_worst 48 = .ok (.istore_n 2, 1) := by decide +kernel
theorem dX10_worst_49 : decode cX10_worst 49 = .ok (.iinc 3 1, 3) := by decide +kernel
theorem dX10_worst_52 : decode cX10_worst 52 = .ok (.goto (-29), 3) := by decide +kernel
theorem dX10_worst_55 : decode cX10_worst 55 = .ok (.aload_n 0, 1) := by decide +kernel
theorem dX10_worst_56 : decode cX10_worst 56 = .ok (.invokevirtual 195, 3) := by decide +kernel
theorem dX10_worst_59 : decode cX10_worst 59 = .ok (.iload_n 2, 1) := by decide +kernel
theorem dX10_worst_60 : decode cX10_worst 60 = .ok (.ireturn, 1) := by decide +kernel
set_option maxRecDepth 20000 in
theorem ggX10_purge_X10_in : GoodIn wsX10_purge wsX10_in := goodIn_r _ [6] (by decide +kernel) (by decide +kernel)
set_option maxRecDepth 20000 in
theorem gX10_purge_X10_in : GoodIn wsX10_purge (va_wsS RX10 52 yX10_in wsX10_in) := goodIn_app (goodIn_of _ (by decide +kernel)) ggX10_purge_X10_in
set_option maxRecDepth 20000 in
theorem ggX10_purge_X10_putAside : GoodIn wsX10_purge wsX10_putAside := goodIn_r _ [10, 11, 2, 86, 87, 88, 89, 90, 91, 92, 93, 94, 95] (by decide +kernel) (by decide +kernel)
set_option maxRecDepth 20000 in
theorem gX10_purge_X10_putAside : GoodIn wsX10_purge (wsV RX10 186 RX10 yX10_putAside wsX10_putAside) := goodIn_app (goodIn_of _ (by decide +kernel)) ggX10_purge_X10_putAside
set_option maxRecDepth 20000 in
theorem ggX10_purge_X10_setMode : GoodIn wsX10_purge wsX10_setMode := goodIn_r _ [15, 2, 16, 17, 18, 5, 19, 20, 21, 22, 23, 86, 87, 88, 89, 90, 91, 92, 93, 94, 95] (by decide +kernel) (by decide +kernel)
set_option maxRecDepth 20000 in
theorem gX10_purge_X10_setMode : GoodIn wsX10_purge (wsV RX10 154 RX10 yX10_setMode wsX10_setMode) := goodIn_app (goodIn_of _ (by decide +kernel)) ggX10_purge_X10_setMode
set_option maxRecDepth 20000 in
theorem ggX10_purge_X10_concentration : GoodIn wsX10_purge wsX10_concentration := goodIn_r _ [27, 2, 28, 86, 87, 88, 89, 90, 91, 92, 93, 94, 95] (by decide +kernel) (by decide +kernel)
set_option maxRecDepth 20000 in
theorem gX10_purge_X10_concentration : GoodIn wsX10_purge (wsV RX10 129 RX10 yX10_concentration wsX10_concentration) := goodIn_app (goodIn_of _ (by decide +kernel)) ggX10_purge_X10_concentration
set_option maxRecDepth 20000 in
theorem ggX10_purge_X10_makeMinute : GoodIn wsX10_purge wsX10_makeMinute := goodIn_r _ [32, 2, 33, 34, 35, 5, 36, 37, 38, 39, 40, 41, 42, 43, 44, 45, 46, 47, 48, 49, 50, 51, 52, 53, 54, 55, 56, 57, 58, 59, 60, 61, 62, 63, 64, 65, 66, 67, 68, 69, 70, 71, 72, 73, 1, 74, 75, 76, 77, 28, 24, 25, 26, 27, 16, 17, 18, 19, 20, 21, 22, 23, 78, 79, 80, 81, 86, 87, 88, 89, 90, 91, 92, 93, 94, 95] (by decide +kernel) (by decide +kernel)
set_option maxRecDepth 20000 in
theorem gX10_purge_X10_makeMinute : GoodIn wsX10_purge (wsV RX10 151 RX10 yX10_makeMinute wsX10_makeMinute) := goodIn_app (goodIn_of _ (by decide +kernel)) ggX10_purge_X10_makeMinute
set_option maxRecDepth 20000 in
theorem ggX10_purge_X10_putBack : GoodIn wsX10_purge wsX10_putBack := goodIn_r _ [85, 2, 11, 86, 87, 88, 89, 90, 91, 92, 93, 94, 95] (by decide +kernel) (by decide +kernel)
set_option maxRecDepth 20000 in
theorem gX10_purge_X10_putBack : GoodIn wsX10_purge (wsV RX10 195 RX10 yX10_putBack wsX10_putBack) := goodIn_app (goodIn_of _ (by decide +kernel)) ggX10_purge_X10_putBack
theorem dX10_purge_0 : decode cX10_purge 0 = .ok (.iload_n 1, 1) := by decide +kernel
theorem dX10_purge_1 : decode cX10_purge 1 = .ok (.i2l, 1) := by decide +kernel
theorem dX10_purge_2 : decode cX10_purge 2 = .ok (.lconst 1, 1) := by decide +kernel
theorem dX10_purge_3 : decode cX10_purge 3 = .ok (.ldc2_w 44, 3) := by decide +kernel
theorem dX10_purge_6 : decode cX10_purge 6 = .ok (.invokestatic 52, 3) := by decide +kernel
theorem dX10_purge_9 : decode cX10_purge 9 = .ok (.ifCond .ne 6, 3) := by decide +kernel
theorem dX10_purge_12 : decode cX10_purge 12 = .ok (.bipush (-2), 2) := by decide +kernel
theorem dX10_purge_14 : decode cX10_purge 14 = .ok (.ireturn, 1) := by decide +kernel
theorem dX10_purge_15 : decode cX10_purge 15 = .ok (.aload_n 0, 1) := by decide +kernel
theorem dX10_purge_16 : decode cX10_purge 16 = .ok (.invokevirtual 186, 3) := by decide +kernel
theorem dX10_purge_19 : decode cX10_purge 19 = .ok (.aload_n 0, 1) := by decide +kernel
theorem dX10_purge_20 : decode cX10_purge 20 = .ok (.getfield 7, 3) := by decide +kernel
theorem dX10_purge_23 : decode cX10_purge 23 = .ok (.bipush 83, 2) := by decide +kernel
theorem dX10_purge_25 : decode cX10_purge 25 = .ok (.lconst 0, 1) := by decide +kernel
theorem dX10_purge_26 : decode cX10_purge 26 = .ok (.lastore, 1) := by decide +kernel
theorem dX10_purge_27 : decode cX10_purge 27 = .ok (.aload_n 0, 1) := by decide +kernel
theorem dX10_purge_28 : decode cX10_purge 28 = .ok (.iconst 2, 1) := by decide +kernel
theorem dX10_purge_29 : decode cX10_purge 29 = .ok (.invokevirtual 154, 3) := by decide +kernel
theorem dX10_purge_32 : decode cX10_purge 32 = .ok (.iconst 0, 1) := by decide +kernel
theorem dX10_purge_33 : decode cX10_purge 33 = .ok (.istore_n 2, 1) := by decide +kernel
theorem dX10_purge_34 : decode cX10_purge 34 = .ok (.aload_n 0, 1) := by decide +kernel
theorem dX10_purge_35 : decode cX10_purge 35 = .ok (.invokevirtual 129, 3) := by decide +kernel
theorem dX10_purge_38 : decode cX10_purge 38 = .ok (.i2l, 1) := by decide +kernel
theorem dX10_purge_39 : decode cX10_purge 39 = .ok (.aload_n 0, 1) := by decide +kernel
theorem dX10_purge_40 : decode cX10_purge 40 = .ok (.getfield 7, 3) := by decide +kernel
theorem dX10_purge_43 : decode cX10_purge 43 = .ok (.bipush 72, 2) := by decide +kernel
theorem dX10_purge_45 : decode cX10_purge 45 = .ok (.laload, 1) := by decide +kernel
theorem dX10_purge_46 : decode cX10_purge 46 = .ok (.lcmp, 1) := by decide +kernel
theorem dX10_purge_47 : decode cX10_purge 47 = .ok (.ifCond .lt 18, 3) := by decide +kernel
theorem dX10_purge_50 : decode cX10_purge 50 = .ok (.iload_n 2, 1) := by decide +kernel
theorem dX10_purge_51 : decode cX10_purge 51 = .ok (.iload_n 1, 1) := by decide +kernel
theorem dX10_purge_52 : decode cX10_purge 52 = .ok (.if_icmp .ge 13, 3) := by decide +kernel
theorem dX10_purge_55 : decode cX10_purge 55 = .ok (.aload_n 0, 1) := by decide +kernel
theorem dX10_purge_56 : decode cX10_purge 56 = .ok (.invokevirtual 151, 3) := by decide +kernel
theorem dX10_purge_59 : decode cX10_purge 59 = .ok (.iinc 2 1, 3) := by decide +kernel
theorem dX10_purge_62 : decode cX10_purge 62 = .ok (.goto (-28), 3) := by decide +kernel
theorem dX10_purge_65 : decode cX10_purge 65 = .ok (.aload_n 0, 1) := by decide +kernel
theorem dX10_purge_66 : decode cX10_purge 66 = .ok (.invokevirtual 129, 3) := by decide +kernel
theorem dX10_purge_69 : decode cX10_purge 69 = .ok (.i2l, 1) := by decide +kernel
theorem dX10_purge_70 : decode cX10_purge 70 = .ok (.aload_n 0, 1) := by decide +kernel
theorem dX10_purge_71 : decode cX10_purge 71 = .ok (.getfield 7, 3) := by decide +kernel
theorem dX10_purge_74 : decode cX10_purge 74 = .ok (.bipush 72, 2) := by decide +kernel
theorem dX10_purge_76 : decode cX10_purge 76 = .ok (.laload, 1) := by decide +kernel
theorem dX10_purge_77 : decode cX10_purge 77 = .ok (.lcmp, 1) := by decide +kernel
theorem dX10_purge_78 : decode cX10_purge 78 = .ok (.ifCond .ge 7, 3) := by decide +kernel
theorem dX10_purge_81 : decode cX10_purge 81 = .ok (.iload_n 2, 1) := by decide +kernel
theorem dX10_purge_82 : decode cX10_purge 82 = .ok (.goto 5, 3) := by decide +kernel
theorem dX10_purge_85 : decode cX10_purge 85 = .ok (.bipush (-6), 2) := by decide +kernel
theorem dX10_purge_87 : decode cX10_purge 87 = .ok (.istore_n 3, 1) := by decide +kernel
theorem dX10_purge_88 : decode cX10_purge 88 = .ok (.aload_n 0, 1) := by decide +kernel
theorem dX10_purge_89 : decode cX10_purge 89 = .ok (.invokevirtual 195, 3) := by decide +kernel
theorem dX10_purge_92 : decode cX10_purge 92 = .ok (.iload_n 3, 1) := by decide +kernel
theorem dX10_purge_93 : decode cX10_purge 93 = .ok (.ireturn, 1) := by decide +kernel
set_option maxRecDepth 20000 in
theorem ggX10_front_X10_in : GoodIn wsX10_front wsX10_in := goodIn_r _ [7] (by decide +kernel) (by decide +kernel)
set_option maxRecDepth 20000 in
theorem gX10_front_X10_in : GoodIn wsX10_front (va_wsS RX10 52 yX10_in wsX10_in) := goodIn_app (goodIn_of _ (by decide +kernel)) ggX10_front_X10_in
set_option maxRecDepth 20000 in
theorem ggX10_front_X10_allIce : GoodIn wsX10_front wsX10_allIce := goodIn_r _ [11, 12, 13, 14, 6, 15, 16, 17, 18, 19, 20, 104, 105, 106, 107, 108, 109, 110, 111, 112, 113] (by decide +kernel) (by decide +kernel)
set_option maxRecDepth 20000 in
theorem gX10_front_X10_allIce : GoodIn wsX10_front (wsV RX10 160 RX10 yX10_allIce wsX10_allIce) := goodIn_app (goodIn_of _ (by decide +kernel)) ggX10_front_X10_allIce
set_option maxRecDepth 20000 in
theorem ggX10_front_X10_putAside : GoodIn wsX10_front wsX10_putAside := goodIn_r _ [24, 25, 16, 104, 105, 106, 107, 108, 109, 110, 111, 112, 113] (by decide +kernel) (by decide +kernel)
set_option maxRecDepth 20000 in
theorem gX10_front_X10_putAside : GoodIn wsX10_front (wsV RX10 186 RX10 yX10_putAside wsX10_putAside) := goodIn_app (goodIn_of _ (by decide +kernel)) ggX10_front_X10_putAside
set_option maxRecDepth 20000 in
theorem ggX10_front_X10_boxes : GoodIn wsX10_front wsX10_boxes := goodIn_r _ [15, 16, 104, 105, 106, 107, 108, 109, 110, 111, 112, 113] (by decide +kernel) (by decide +kernel)
set_option maxRecDepth 20000 in
theorem gX10_front_X10_boxes : GoodIn wsX10_front (wsV RX10 48 RX10 yX10_boxes wsX10_boxes) := goodIn_app (goodIn_of _ (by decide +kernel)) ggX10_front_X10_boxes
set_option maxRecDepth 20000 in
theorem ggX10_front_X10_move : GoodIn wsX10_front wsX10_move := goodIn_r _ [29, 30, 31, 32, 6, 33, 17, 18, 19, 20, 16, 34, 35, 36, 37, 104, 105, 106, 107, 108, 109, 110, 111, 112, 113] (by decide +kernel) (by decide +kernel)
set_option maxRecDepth 20000 in
theorem gX10_front_X10_move : GoodIn wsX10_front (wsV RX10 82 RX10 yX10_move wsX10_move) := goodIn_app (goodIn_of _ (by decide +kernel)) ggX10_front_X10_move
set_option maxRecDepth 20000 in
theorem ggX10_front_X10_take : GoodIn wsX10_front wsX10_take := goodIn_r _ [41, 12, 13, 14, 6, 15, 16, 17, 18, 19, 20, 34, 35, 36, 37, 104, 105, 106, 107, 108, 109, 110, 111, 112, 113] (by decide +kernel) (by decide +kernel)
set_option maxRecDepth 20000 in
theorem gX10_front_X10_take : GoodIn wsX10_front (wsV RX10 163 RX10 yX10_take wsX10_take) := goodIn_app (goodIn_of _ (by decide +kernel)) ggX10_front_X10_take
set_option maxRecDepth 20000 in
theorem ggX10_front_X10_stay : GoodIn wsX10_front wsX10_stay := goodIn_r _ [45, 46, 47, 48, 6, 49, 16, 50, 51, 52, 53, 12, 13, 14, 15, 54, 55, 56, 57, 58, 2, 17, 18, 19, 20, 34, 35, 36, 37, 59, 60, 61, 62, 63, 64, 65, 66, 67, 68, 69, 70, 71, 72, 73, 74, 75, 76, 77, 78, 79, 80, 81, 82, 83, 84, 85, 86, 87, 88, 89, 90, 91, 92, 93, 94, 95, 96, 97, 98, 99, 104, 105, 106, 107, 108, 109, 110, 111, 112, 113] (by decide +kernel) (by decide +kernel)
set_option maxRecDepth 20000 in
theorem gX10_front_X10_stay : GoodIn wsX10_front (wsV RX10 192 RX10 yX10_stay wsX10_stay) := goodIn_app (goodIn_of _ (by decide +kernel)) ggX10_front_X10_stay
set_option maxRecDepth 20000 in
theorem ggX10_front_X10_putBack : GoodIn wsX10_front wsX10_putBack := goodIn_r _ [103, 16, 25, 104, 105, 106, 107, 108, 109, 110, 111, 112, 113] (by decide +kernel) (by decide +kernel)
set_option maxRecDepth 20000 in
theorem gX10_front_X10_putBack : GoodIn wsX10_front (wsV RX10 195 RX10 yX10_putBack wsX10_putBack) := goodIn_app (goodIn_of _ (by decide +kernel)) ggX10_front_X10_putBack
theorem dX10_front_0 : decode cX10_front 0 = .ok (.iload_n 1, 1) := by decide +kernel
theorem dX10_front_1 : decode cX10_front 1 = .ok (.i2l, 1) := by decide +kernel
theorem dX10_front_2 : decode cX10_front 2 = .ok (.lconst 1, 1) := by decide +kernel
theorem dX10_front_3 : decode cX10_front 3 = .ok (.ldc2_w 158, 3) := by decide +kernel
theorem dX10_front_6 : decode cX10_front 6 = .ok (.invokestatic 52, 3) := by decide +kernel
theorem dX10_front_9 : decode cX10_front 9 = .ok (.ifCond .eq 15, 3) := by decide +kernel
theorem dX10_front_12 : decode cX10_front 12 = .ok (.iload_n 2, 1) := by decide +kernel
theorem dX10_front_13 : decode cX10_front 13 = .ok (.i2l, 1) := by decide +kernel
theorem dX10_front_14 : decode cX10_front 14 = .ok (.lconst 1, 1) := by decide +kernel
theorem dX10_front_15 : decode cX10_front 15 = .ok (.ldc2_w 34, 3) := by decide +kernel
theorem dX10_front_18 : decode cX10_front 18 = .ok (.invokestatic 52, 3) := by decide +kernel
theorem dX10_front_21 : decode cX10_front 21 = .ok (.ifCond .ne 6, 3) := by decide +kernel
theorem dX10_front_24 : decode cX10_front 24 = .ok (.bipush (-2), 2) := by decide +kernel
theorem dX10_front_26 : decode cX10_front 26 = .ok (.ireturn, 1) := by decide +kernel
theorem dX10_front_27 : decode cX10_front 27 = .ok (.aload_n 0, 1) := by decide +kernel
theorem dX10_front_28 : decode cX10_front 28 = .ok (.invokevirtual 160, 3) := by decide +kernel
theorem dX10_front_31 : decode cX10_front 31 = .ok (.iload_n 1, 1) := by decide +kernel
theorem dX10_front_32 : decode cX10_front 32 = .ok (.i2l, 1) := by decide +kernel
theorem dX10_front_33 : decode cX10_front 33 = .ok (.lcmp, 1) := by decide +kernel
theorem dX10_front_34 : decode cX10_front 34 = .ok (.ifCond .ge 6, 3) := by decide +kernel
theorem dX10_front_37 : decode cX10_front 37 = .ok (.bipush (-5), 2) := by decide +kernel
theorem dX10_front_39 : decode cX10_front 39 = .ok (.ireturn, 1) := by decide +kernel
theorem dX10_front_40 : decode cX10_front 40 = .ok (.aload_n 0, 1) := by decide +kernel
theorem dX10_front_41 : decode cX10_front 41 = .ok (.invokevirtual 186, 3) := by decide +kernel
theorem dX10_front_44 : decode cX10_front 44 = .ok (.iconst 0, 1) := by decide +kernel
theorem dX10_front_45 : decode cX10_front 45 = .ok (.istore_n 3, 1) := by decide +kernel
theorem dX10_front_46 : decode cX10_front 46 = .ok (.ldc2_w 32, 3) := by decide +kernel
theorem dX10_front_49 : decode cX10_front 49 = .ok (.lstore 4, 2) := by decide +kernel
theorem dX10_front_51 : decode cX10_front 51 = .ok (.iconst 0, 1) := by decide +kernel
theorem dX10_front_52 : decode cX10_front 52 = .ok (.istore 6, 2) := by decide +kernel
theorem dX10_front_54 : decode cX10_front 54 = .ok (.iload 6, 2) := by decide +kernel
theorem dX10_front_56 : decode cX10_front 56 = .ok (.aload_n 0, 1) := by decide +kernel
theorem dX10_front_57 : decode cX10_front 57 = .ok (.invokevirtual 48, 3) := by decide +kernel
theorem dX10_front_60 : decode cX10_front 60 = .ok (.if_icmp .ge 57, 3) := by decide +kernel
theorem dX10_front_63 : decode cX10_front 63 = .ok (.aload_n 0, 1) := by decide +kernel
theorem dX10_front_64 : decode cX10_front 64 = .ok (.iload 6, 2) := by decide +kernel
theorem dX10_front_66 : decode cX10_front 66 = .ok (.iconst 0, 1) := by decide +kernel
theorem dX10_front_67 : decode cX10_front 67 = .ok (.invokevirtual 82, 3) := by decide +kernel
theorem dX10_front_70 : decode cX10_front 70 = .ok (.aload_n 0, 1) := by decide +kernel
theorem dX10_front_71 : decode cX10_front 71 = .ok (.iload_n 1, 1) := by decide +kernel
theorem dX10_front_72 : decode cX10_front 72 = .ok (.i2l, 1) := by decide +kernel
theorem dX10_front_73 : decode cX10_front 73 = .ok (.invokevirtual 163, 3) := by decide +kernel
theorem dX10_front_76 : decode cX10_front 76 = .ok (.istore 7, 2) := by decide +kernel
theorem dX10_front_78 : decode cX10_front 78 = .ok (.aload_n 0, 1) := by decide +kernel
theorem dX10_front_79 : decode cX10_front 79 = .ok (.iload_n 2, 1) := by decide +kernel
theorem dX10_front_80 : decode cX10_front 80 = .ok (.invokevirtual 192, 3) := by decide +kernel
theorem dX10_front_83 : decode cX10_front 83 = .ok (.iload 7, 2) := by decide +kernel
theorem dX10_front_85 : decode cX10_front 85 = .ok (.ifCond .le 22, 3) := by decide +kernel
theorem dX10_front_88 : decode cX10_front 88 = .ok (.aload_n 0, 1) := by decide +kernel
theorem dX10_front_89 : decode cX10_front 89 = .ok (.invokevirtual 160, 3) := by decide +kernel
theorem dX10_front_92 : decode cX10_front 92 = .ok (.lload 4, 2) := by decide +kernel
theorem dX10_front_94 : decode cX10_front 94 = .ok (.lcmp, 1) := by decide +kernel
theorem dX10_front_95 : decode cX10_front 95 = .ok (.ifCond .le 12, 3) := by decide +kernel
theorem dX10_front_98 : decode cX10_front 98 = .ok (.iload 6, 2) := by decide +kernel
theorem dX10_front_100 : decode cX10_front 100 = .ok (.istore_n 3, 1) := by decide +kernel
theorem dX10_front_101 : decode cX10_front 101 = .ok (.aload_n 0, 1) := by decide +kernel
theorem dX10_front_102 : decode cX10_front 102 = .ok (.invokevirtual 160, 3) := by decide +kernel
theorem dX10_front_105 : decode cX10_front 105 = .ok (.lstore 4, 2) := by decide +kernel
theorem dX10_front_107 : decode cX10_front 107 = .ok (.aload_n 0, 1) := by decide +kernel
theorem dX10_front_108 : decode cX10_front 108 = .ok (.invokevirtual 195, 3) := by decide +kernel
theorem dX10_front_111 : decode cX10_front 111 = .ok (.iinc 6 1, 3) := by decide +kernel
theorem dX10_front_114 : decode cX10_front 114 = .ok (.goto (-60), 3) := by decide +kernel
theorem dX10_front_117 : decode cX10_front 117 = .ok (.iload_n 3, 1) := by decide +kernel
theorem dX10_front_118 : decode cX10_front 118 = .ok (.ireturn, 1) := by decide +kernel
set_option maxRecDepth 20000 in
theorem ggX10_say_X10_in : GoodIn wsX10_say wsX10_in := goodIn_r _ [8] (by decide +kernel) (by decide +kernel)
set_option maxRecDepth 20000 in
theorem gX10_say_X10_in : GoodIn wsX10_say (va_wsS RX10 52 yX10_in wsX10_in) := goodIn_app (goodIn_of _ (by decide +kernel)) ggX10_say_X10_in
theorem dX10_say_0 : decode cX10_say 0 = .ok (.iload_n 1, 1) := by decide +kernel
theorem dX10_say_1 : decode cX10_say 1 = .ok (.i2l, 1) := by decide +kernel
theorem dX10_say_2 : decode cX10_say 2 = .ok (.ldc2_w 198, 3) := by decide +kernel
theorem dX10_say_5 : decode cX10_say 5 = .ok (.ldc2_w 200, 3) := by decide +kernel
theorem dX10_say_8 : decode cX10_say 8 = .ok (.invokestatic 52, 3) := by decide +kernel
theorem dX10_say_11 : decode cX10_say 11 = .ok (.ifCond .ne 6, 3) := by decide +kernel
theorem dX10_say_14 : decode cX10_say 14 = .ok (.bipush (-2), 2) := by decide +kernel
theorem dX10_say_16 : decode cX10_say 16 = .ok (.ireturn, 1) := by decide +kernel
theorem dX10_say_17 : decode cX10_say 17 = .ok (.aload_n 0, 1) := by decide +kernel
theorem dX10_say_18 : decode cX10_say 18 = .ok (.getfield 179, 3) := by decide +kernel
theorem dX10_say_21 : decode cX10_say 21 = .ok (.bipush 80, 2) := by decide +kernel
theorem dX10_say_23 : decode cX10_say 23 = .ok (.if_icmp .ne 6, 3) := by decide +kernel
theorem dX10_say_26 : decode cX10_say 26 = .ok (.bipush (-4), 2) := by decide +kernel
theorem dX10_say_28 : decode cX10_say 28 = .ok (.ireturn, 1) := by decide +kernel
theorem dX10_say_29 : decode cX10_say 29 = .ok (.aload_n 0, 1) := by decide +kernel
theorem dX10_say_30 : decode cX10_say 30 = .ok (.getfield 23, 3) := by decide +kernel
theorem dX10_say_33 : decode cX10_say 33 = .ok (.aload_n 0, 1) := by decide +kernel
theorem dX10_say_34 : decode cX10_say 34 = .ok (.getfield 179, 3) := by decide +kernel
theorem dX10_say_37 : decode cX10_say 37 = .ok (.iload_n 1, 1) := by decide +kernel
theorem dX10_say_38 : decode cX10_say 38 = .ok (.iastore, 1) := by decide +kernel
theorem dX10_say_39 : decode cX10_say 39 = .ok (.aload_n 0, 1) := by decide +kernel
theorem dX10_say_40 : decode cX10_say 40 = .ok (.dup, 1) := by decide +kernel
theorem dX10_say_41 : decode cX10_say 41 = .ok (.getfield 179, 3) := by decide +kernel
theorem dX10_say_44 : decode cX10_say 44 = .ok (.iconst 1, 1) := by decide +kernel
theorem dX10_say_45 : decode cX10_say 45 = .ok (.iadd, 1) := by decide +kernel
theorem dX10_say_46 : decode cX10_say 46 = .ok (.putfield 179, 3) := by decide +kernel
theorem dX10_say_49 : decode cX10_say 49 = .ok (.aload_n 0, 1) := by decide +kernel
theorem dX10_say_50 : decode cX10_say 50 = .ok (.getfield 179, 3) := by decide +kernel
theorem dX10_say_53 : decode cX10_say 53 = .ok (.ireturn, 1) := by decide +kernel
theorem dX10_wipe_0 : decode cX10_wipe 0 = .ok (.aload_n 0, 1) := by decide +kernel
theorem dX10_wipe_1 : decode cX10_wipe 1 = .ok (.getfield 179, 3) := by decide +kernel
theorem dX10_wipe_4 : decode cX10_wipe 4 = .ok (.istore_n 1, 1) := by decide +kernel
theorem dX10_wipe_5 : decode cX10_wipe 5 = .ok (.aload_n 0, 1) := by decide +kernel
theorem dX10_wipe_6 : decode cX10_wipe 6 = .ok (.iconst 0, 1) := by decide +kernel
theorem dX10_wipe_7 : decode cX10_wipe 7 = .ok (.putfield 179, 3) := by decide +kernel
theorem dX10_wipe_10 : decode cX10_wipe 10 = .ok (.iload_n 1, 1) := by decide +kernel
theorem dX10_wipe_11 : decode cX10_wipe 11 = .ok (.ireturn, 1) := by decide +kernel
theorem dX10_next_0 : decode cX10_next 0 = .ok (.aload_n 0, 1) := by decide +kernel
theorem dX10_next_1 : decode cX10_next 1 = .ok (.getfield 202, 3) := by decide +kernel
theorem dX10_next_4 : decode cX10_next 4 = .ok (.aload_n 0, 1) := by decide +kernel
theorem dX10_next_5 : decode cX10_next 5 = .ok (.getfield 179, 3) := by decide +kernel
theorem dX10_next_8 : decode cX10_next 8 = .ok (.if_icmp .ge 15, 3) := by decide +kernel
theorem dX10_next_11 : decode cX10_next 11 = .ok (.aload_n 0, 1) := by decide +kernel
theorem dX10_next_12 : decode cX10_next 12 = .ok (.getfield 23, 3) := by decide +kernel
theorem dX10_next_15 : decode cX10_next 15 = .ok (.aload_n 0, 1) := by decide +kernel
theorem dX10_next_16 : decode cX10_next 16 = .ok (.getfield 202, 3) := by decide +kernel
theorem dX10_next_19 : decode cX10_next 19 = .ok (.iaload, 1) := by decide +kernel
theorem dX10_next_20 : decode cX10_next 20 = .ok (.goto 4, 3) := by decide +kernel
theorem dX10_next_23 : decode cX10_next 23 = .ok (.iconst 0, 1) := by decide +kernel
theorem dX10_next_24 : decode cX10_next 24 = .ok (.ireturn, 1) := by decide +kernel
set_option maxRecDepth 20000 in
theorem ggX10_takeNumber_X10_next : GoodIn wsX10_takeNumber wsX10_next := goodIn_r _ [9, 3, 10, 11, 15, 16, 17, 18, 19, 20, 21, 22, 23, 24] (by decide +kernel) (by decide +kernel)
set_option maxRecDepth 20000 in
theorem gX10_takeNumber_X10_next : GoodIn wsX10_takeNumber (wsV RX10 209 RX10 yX10_next wsX10_next) := goodIn_app (goodIn_of _ (by decide +kernel)) ggX10_takeNumber_X10_next
set_option maxRecDepth 20000 in
theorem ggX10_takeNumber_X10_in : GoodIn wsX10_takeNumber wsX10_in := goodIn_r _ [14] (by decide +kernel) (by decide +kernel)
set_option maxRecDepth 20000 in
theorem gX10_takeNumber_X10_in : GoodIn wsX10_takeNumber (va_wsS RX10 52 yX10_in wsX10_in) := goodIn_app (goodIn_of _ (by decide +kernel)) ggX10_takeNumber_X10_in
theorem dX10_takeNumber_0 : decode cX10_takeNumber 0 = .ok (.aload_n 0, 1) := by decide +kernel
theorem dX10_takeNumber_1 : decode cX10_takeNumber 1 = .ok (.aload_n 0, 1) := by decide +kernel
theorem dX10_takeNumber_2 : decode cX10_takeNumber 2 = .ok (.getfield 205, 3) := by decide +kernel
theorem dX10_takeNumber_5 : decode cX10_takeNumber 5 = .ok (.ifCond .ne 22, 3) := by decide +kernel
theorem dX10_takeNumber_8 : decode cX10_takeNumber 8 = .ok (.aload_n 0, 1) := by decide +kernel
theorem dX10_takeNumber_9 : decode cX10_takeNumber 9 = .ok (.invokevirtual 209, 3) := by decide +kernel
theorem dX10_takeNumber_12 : decode cX10_takeNumber 12 = .ok (.i2l, 1) := by decide +kernel
theorem dX10_takeNumber_13 : decode cX10_takeNumber 13 = .ok (.bipush 48, 2) := by decide +kernel
theorem dX10_takeNumber_15 : decode cX10_takeNumber 15 = .ok (.iload_n 1, 1) := by decide +kernel
theorem dX10_takeNumber_16 : decode cX10_takeNumber 16 = .ok (.iadd, 1) := by decide +kernel
theorem dX10_takeNumber_17 : decode cX10_takeNumber 17 = .ok (.i2l, 1) := by decide +kernel
theorem dX10_takeNumber_18 : decode cX10_takeNumber 18 = .ok (.ldc2_w 212, 3) := by decide +kernel
theorem dX10_takeNumber_21 : decode cX10_takeNumber 21 = .ok (.invokestatic 52, 3) := by decide +kernel
theorem dX10_takeNumber_24 : decode cX10_takeNumber 24 = .ok (.ifCond .ne 7, 3) := by decide +kernel
theorem dX10_takeNumber_27 : decode cX10_takeNumber 27 = .ok (.iconst 1, 1) := by decide +kernel
theorem dX10_takeNumber_28 : decode cX10_takeNumber 28 = .ok (.goto 4, 3) := by decide +kernel
theorem dX10_takeNumber_31 : decode cX10_takeNumber 31 = .ok (.iconst 0, 1) := by decide +kernel
theorem dX10_takeNumber_32 : decode cX10_takeNumber 32 = .ok (.putfield 205, 3) := by decide +kernel
theorem dX10_takeNumber_35 : decode cX10_takeNumber 35 = .ok (.iconst 0, 1) := by decide +kernel
theorem dX10_takeNumber_36 : decode cX10_takeNumber 36 = .ok (.istore_n 3, 1) := by decide +kernel
theorem dX10_takeNumber_37 : decode cX10_takeNumber 37 = .ok (.aload_n 0, 1) := by decide +kernel
theorem dX10_takeNumber_38 : decode cX10_takeNumber 38 = .ok (.getfield 205, 3) := by decide +kernel
theorem dX10_takeNumber_41 : decode cX10_takeNumber 41 = .ok (.ifCond .ne 7, 3) := by decide +kernel
theorem dX10_takeNumber_44 : decode cX10_takeNumber 44 = .ok (.iconst 1, 1) := by decide +kernel
theorem dX10_takeNumber_45 : decode cX10_takeNumber 45 = .ok (.goto 4, 3) := by decide +kernel
theorem dX10_takeNumber_48 : decode cX10_takeNumber 48 = .ok (.iconst 0, 1) := by decide +kernel
theorem dX10_takeNumber_49 : decode cX10_takeNumber 49 = .ok (.istore 4, 2) := by decide +kernel
theorem dX10_takeNumber_51 : decode cX10_takeNumber 51 = .ok (.iload 4, 2) := by decide +kernel
theorem dX10_takeNumber_53 : decode cX10_takeNumber 53 = .ok (.ifCond .eq 73, 3) := by decide +kernel
theorem dX10_takeNumber_56 : decode cX10_takeNumber 56 = .ok (.bipush 10, 2) := by decide +kernel
theorem dX10_takeNumber_58 : decode cX10_takeNumber 58 = .ok (.iload_n 3, 1) := by decide +kernel
theorem dX10_takeNumber_59 : decode cX10_takeNumber 59 = .ok (.imul, 1) := by decide +kernel
theorem dX10_takeNumber_60 : decode cX10_takeNumber 60 = .ok (.aload_n 0, 1) := by decide +kernel
theorem dX10_takeNumber_61 : decode cX10_takeNumber 61 = .ok (.invokevirtual 209, 3) := by decide +kernel
theorem dX10_takeNumber_64 : decode cX10_takeNumber 64 = .ok (.iadd, 1) := by decide +kernel
theorem dX10_takeNumber_65 : decode cX10_takeNumber 65 = .ok (.bipush 48, 2) := by decide +kernel
theorem dX10_takeNumber_67 : decode cX10_takeNumber 67 = .ok (.isub, 1) := by decide +kernel
theorem dX10_takeNumber_68 : decode cX10_takeNumber 68 = .ok (.istore_n 3, 1) := by decide +kernel
theorem dX10_takeNumber_69 : decode cX10_takeNumber 69 = .ok (.aload_n 0, 1) := by decide +kernel
theorem dX10_takeNumber_70 : decode cX10_takeNumber 70 = .ok (.dup, 1) := by decide +kernel
theorem dX10_takeNumber_71 : decode cX10_takeNumber 71 = .ok (.getfield 202, 3) := by decide +kernel
theorem dX10_takeNumber_74 : decode cX10_takeNumber 74 = .ok (.iconst 1, 1) := by decide +kernel
theorem dX10_takeNumber_75 : decode cX10_takeNumber 75 = .ok (.iadd, 1) := by decide +kernel
theorem dX10_takeNumber_76 : decode cX10_takeNumber 76 = .ok (.putfield 202, 3) := by decide +kernel
theorem dX10_takeNumber_79 : decode cX10_takeNumber 79 = .ok (.iload_n 3, 1) := by decide +kernel
theorem dX10_takeNumber_80 : decode cX10_takeNumber 80 = .ok (.ifCond .le 40, 3) := by decide +kernel
theorem dX10_takeNumber_83 : decode cX10_takeNumber 83 = .ok (.aload_n 0, 1) := by decide +kernel
theorem dX10_takeNumber_84 : decode cX10_takeNumber 84 = .ok (.invokevirtual 209, 3) := by decide +kernel
theorem dX10_takeNumber_87 : decode cX10_takeNumber 87 = .ok (.i2l, 1) := by decide +kernel
theorem dX10_takeNumber_88 : decode cX10_takeNumber 88 = .ok (.ldc2_w 214, 3) := by decide +kernel
theorem dX10_takeNumber_91 : decode cX10_takeNumber 91 = .ok (.ldc2_w 212, 3) := by decide +kernel
theorem dX10_takeNumber_94 : decode cX10_takeNumber 94 = .ok (.invokestatic 52, 3) := by decide +kernel
theorem dX10_takeNumber_97 : decode cX10_takeNumber 97 = .ok (.ifCond .eq 23, 3) := by decide +kernel
theorem dX10_takeNumber_100 : decode cX10_takeNumber 100 = .ok (.bipush 10, 2) := by decide +kernel
theorem dX10_takeNumber_102 : decode cX10_takeNumber 102 = .ok (.iload_n 3, 1) := by decide +kernel
theorem dX10_takeNumber_103 : decode cX10_takeNumber 103 = .ok (.imul, 1) := by decide +kernel
theorem dX10_takeNumber_104 : decode cX10_takeNumber 104 = .ok (.aload_n 0, 1) := by decide +kernel
theorem dX10_takeNumber_105 : decode cX10_takeNumber 105 = .ok (.invokevirtual 209, 3) := by decide +kernel
theorem dX10_takeNumber_108 : decode cX10_takeNumber 108 = .ok (.iadd, 1) := by decide +kernel
theorem dX10_takeNumber_109 : decode cX10_takeNumber 109 = .ok (.bipush 48, 2) := by decide +kernel
theorem dX10_takeNumber_111 : decode cX10_takeNumber 111 = .ok (.isub, 1) := by decide +kernel
theorem dX10_takeNumber_112 : decode cX10_takeNumber 112 = .ok (.iload_n 2, 1) := by decide +kernel
theorem dX10_takeNumber_113 : decode cX10_takeNumber 113 = .ok (.if_icmp .gt 7, 3) := by decide +kernel
theorem dX10_takeNumber_116 : decode cX10_takeNumber 116 = .ok (.iconst 1, 1) := by decide +kernel
theorem dX10_takeNumber_117 : decode cX10_takeNumber 117 = .ok (.goto 4, 3) := by decide +kernel
theorem dX10_takeNumber_120 : decode cX10_takeNumber 120 = .ok (.iconst 0, 1) := by decide +kernel
theorem dX10_takeNumber_121 : decode cX10_takeNumber 121 = .ok (.istore 4, 2) := by decide +kernel
theorem dX10_takeNumber_123 : decode cX10_takeNumber 123 = .ok (.goto (-72), 3) := by decide +kernel
theorem dX10_takeNumber_126 : decode cX10_takeNumber 126 = .ok (.iload_n 3, 1) := by decide +kernel
theorem dX10_takeNumber_127 : decode cX10_takeNumber 127 = .ok (.ireturn, 1) := by decide +kernel
set_option maxRecDepth 20000 in
theorem ggX10_need_X10_next : GoodIn wsX10_need wsX10_next := goodIn_r _ [7, 2, 8, 9, 10, 11, 12, 13, 14, 15, 16, 17, 18, 19] (by decide +kernel) (by decide +kernel)
set_option maxRecDepth 20000 in
theorem gX10_need_X10_next : GoodIn wsX10_need (wsV RX10 209 RX10 yX10_next wsX10_next) := goodIn_app (goodIn_of _ (by decide +kernel)) ggX10_need_X10_next
theorem dX10_need_0 : decode cX10_need 0 = .ok (.aload_n 0, 1) := by decide +kernel
theorem dX10_need_1 : decode cX10_need 1 = .ok (.aload_n 0, 1) := by decide +kernel
theorem dX10_need_2 : decode cX10_need 2 = .ok (.getfield 205, 3) := by decide +kernel
theorem dX10_need_5 : decode cX10_need 5 = .ok (.ifCond .ne 11, 3) := by decide +kernel
theorem dX10_need_8 : decode cX10_need 8 = .ok (.aload_n 0, 1) := by decide +kernel
theorem dX10_need_9 : decode cX10_need 9 = .ok (.invokevirtual 209, 3) := by decide +kernel
theorem dX10_need_12 : decode cX10_need 12 = .ok (.iload_n 1, 1) := by decide +kernel
theorem dX10_need_13 : decode cX10_need 13 = .ok (.if_icmp .eq 7, 3) := by decide +kernel
theorem dX10_need_16 : decode cX10_need 16 = .ok (.iconst 1, 1) := by decide +kernel
theorem dX10_need_17 : decode cX10_need 17 = .ok (.goto 4, 3) := by decide +kernel
theorem dX10_need_20 : decode cX10_need 20 = .ok (.iconst 0, 1) := by decide +kernel
theorem dX10_need_21 : decode cX10_need 21 = .ok (.putfield 205, 3) := by decide +kernel
theorem dX10_need_24 : decode cX10_need 24 = .ok (.aload_n 0, 1) := by decide +kernel
theorem dX10_need_25 : decode cX10_need 25 = .ok (.dup, 1) := by decide +kernel
theorem dX10_need_26 : decode cX10_need 26 = .ok (.getfield 202, 3) := by decide +kernel
theorem dX10_need_29 : decode cX10_need 29 = .ok (.aload_n 0, 1) := by decide +kernel
theorem dX10_need_30 : decode cX10_need 30 = .ok (.getfield 205, 3) := by decide +kernel
theorem dX10_need_33 : decode cX10_need 33 = .ok (.ifCond .eq 7, 3) := by decide +kernel
theorem dX10_need_36 : decode cX10_need 36 = .ok (.iconst 0, 1) := by decide +kernel
theorem dX10_need_37 : decode cX10_need 37 = .ok (.goto 4, 3) := by decide +kernel
theorem dX10_need_40 : decode cX10_need 40 = .ok (.iconst 1, 1) := by decide +kernel
theorem dX10_need_41 : decode cX10_need 41 = .ok (.iadd, 1) := by decide +kernel
theorem dX10_need_42 : decode cX10_need 42 = .ok (.putfield 202, 3) := by decide +kernel
theorem dX10_need_45 : decode cX10_need 45 = .ok (.return_, 1) := by decide +kernel
set_option maxRecDepth 20000 in
theorem ggX10_takeLeg_X10_takeNumber : GoodIn wsX10_takeLeg wsX10_takeNumber := goodIn_r _ [9, 3, 10, 4, 11, 12, 13, 14, 8, 15, 16, 17, 18, 19, 20, 25, 26, 27, 28, 29, 30, 31, 32, 33, 34] (by decide +kernel) (by decide +kernel)
set_option maxRecDepth 20000 in
theorem gX10_takeLeg_X10_takeNumber : GoodIn wsX10_takeLeg (wsV RX10 219 RX10 yX10_takeNumber wsX10_takeNumber) := goodIn_app (goodIn_of _ (by decide +kernel)) ggX10_takeLeg_X10_takeNumber
set_option maxRecDepth 20000 in
theorem ggX10_takeLeg_X10_need : GoodIn wsX10_takeLeg wsX10_need := goodIn_r _ [24, 3, 4, 12, 13, 14, 8, 15, 16, 17, 25, 26, 27, 28, 29, 30, 31, 32, 33, 34] (by decide +kernel) (by decide +kernel)
set_option maxRecDepth 20000 in
theorem gX10_takeLeg_X10_need : GoodIn wsX10_takeLeg (wsV RX10 223 RX10 yX10_need wsX10_need) := goodIn_app (goodIn_of _ (by decide +kernel)) ggX10_takeLeg_X10_need
set_option maxRecDepth 20000 in
theorem ggX10_takeLeg_X10_next : GoodIn wsX10_takeLeg wsX10_next := goodIn_r _ [15, 4, 16, 17, 25, 26, 27, 28, 29, 30, 31, 32, 33, 34] (by decide +kernel) (by decide +kernel)
set_option maxRecDepth 20000 in
theorem gX10_takeLeg_X10_next : GoodIn wsX10_takeLeg (wsV RX10 209 RX10 yX10_next wsX10_next) := goodIn_app (goodIn_of _ (by decide +kernel)) ggX10_takeLeg_X10_next
theorem dX10_takeLeg_0 : decode cX10_takeLeg 0 = .ok (.aload_n 0, 1) := by decide +kernel
theorem dX10_takeLeg_1 : decode cX10_takeLeg 1 = .ok (.getfield 27, 3) := by decide +kernel
theorem dX10_takeLeg_4 : decode cX10_takeLeg 4 = .ok (.iconst 2, 1) := by decide +kernel
theorem dX10_takeLeg_5 : decode cX10_takeLeg 5 = .ok (.aload_n 0, 1) := by decide +kernel
theorem dX10_takeLeg_6 : decode cX10_takeLeg 6 = .ok (.getfield 216, 3) := by decide +kernel
theorem dX10_takeLeg_9 : decode cX10_takeLeg 9 = .ok (.imul, 1) := by decide +kernel
theorem dX10_takeLeg_10 : decode cX10_takeLeg 10 = .ok (.aload_n 0, 1) := by decide +kernel
theorem dX10_takeLeg_11 : decode cX10_takeLeg 11 = .ok (.iconst 1, 1) := by decide +kernel
theorem dX10_takeLeg_12 : decode cX10_takeLeg 12 = .ok (.sipush 600, 3) := by decide +kernel
theorem dX10_takeLeg_15 : decode cX10_takeLeg 15 = .ok (.invokevirtual 219, 3) := by decide +kernel
theorem dX10_takeLeg_18 : decode cX10_takeLeg 18 = .ok (.iastore, 1) := by decide +kernel
theorem dX10_takeLeg_19 : decode cX10_takeLeg 19 = .ok (.aload_n 0, 1) := by decide +kernel
theorem dX10_takeLeg_20 : decode cX10_takeLeg 20 = .ok (.bipush 64, 2) := by decide +kernel
theorem dX10_takeLeg_22 : decode cX10_takeLeg 22 = .ok (.invokevirtual 223, 3) := by decide +kernel
theorem dX10_takeLeg_25 : decode cX10_takeLeg 25 = .ok (.aload_n 0, 1) := by decide +kernel
theorem dX10_takeLeg_26 : decode cX10_takeLeg 26 = .ok (.getfield 205, 3) := by decide +kernel
theorem dX10_takeLeg_29 : decode cX10_takeLeg 29 = .ok (.ifCond .ne 16, 3) := by decide +kernel
theorem dX10_takeLeg_32 : decode cX10_takeLeg 32 = .ok (.aload_n 0, 1) := by decide +kernel
theorem dX10_takeLeg_33 : decode cX10_takeLeg 33 = .ok (.invokevirtual 209, 3) := by decide +kernel
theorem dX10_takeLeg_36 : decode cX10_takeLeg 36 = .ok (.bipush 45, 2) := by decide +kernel
theorem dX10_takeLeg_38 : decode cX10_takeLeg 38 = .ok (.if_icmp .ne 7, 3) := by decide +kernel
theorem dX10_takeLeg_41 : decode cX10_takeLeg 41 = .ok (.iconst 1, 1) := by decide +kernel
theorem dX10_takeLeg_42 : decode cX10_takeLeg 42 = .ok (.goto 4, 3) := by decide +kernel
theorem dX10_takeLeg_45 : decode cX10_takeLeg 45 = .ok (.iconst 0, 1) := by decide +kernel
theorem dX10_takeLeg_46 : decode cX10_takeLeg 46 = .ok (.istore_n 1, 1) := by decide +kernel
theorem dX10_takeLeg_47 : decode cX10_takeLeg 47 = .ok (.aload_n 0, 1) := by decide +kernel
theorem dX10_takeLeg_48 : decode cX10_takeLeg 48 = .ok (.dup, 1) := by decide +kernel
theorem dX10_takeLeg_49 : decode cX10_takeLeg 49 = .ok (.getfield 202, 3) := by decide +kernel
theorem dX10_takeLeg_52 : decode cX10_takeLeg 52 = .ok (.iload_n 1, 1) := by decide +kernel
theorem dX10_takeLeg_53 : decode cX10_takeLeg 53 = .ok (.ifCond .eq 7, 3) := by decide +kernel
theorem dX10_takeLeg_56 : decode cX10_takeLeg 56 = .ok (.iconst 1, 1) := by decide +kernel
theorem dX10_takeLeg_57 : decode cX10_takeLeg 57 = .ok (.goto 4, 3) := by decide +kernel
theorem dX10_takeLeg_60 : decode cX10_takeLeg 60 = .ok (.iconst 0, 1) := by decide +kernel
theorem dX10_takeLeg_61 : decode cX10_takeLeg 61 = .ok (.iadd, 1) := by decide +kernel
theorem dX10_takeLeg_62 : decode cX10_takeLeg 62 = .ok (.putfield 202, 3) := by decide +kernel
theorem dX10_takeLeg_65 : decode cX10_takeLeg 65 = .ok (.aload_n 0, 1) := by decide +kernel
theorem dX10_takeLeg_66 : decode cX10_takeLeg 66 = .ok (.iconst 0, 1) := by decide +kernel
theorem dX10_takeLeg_67 : decode cX10_takeLeg 67 = .ok (.iload_n 1, 1) := by decide +kernel
theorem dX10_takeLeg_68 : decode cX10_takeLeg 68 = .ok (.ifCond .eq 8, 3) := by decide +kernel
theorem dX10_takeLeg_71 : decode cX10_takeLeg 71 = .ok (.bipush 40, 2) := by decide +kernel
theorem dX10_takeLeg_73 : decode cX10_takeLeg 73 = .ok (.goto 5, 3) := by decide +kernel
theorem dX10_takeLeg_76 : decode cX10_takeLeg 76 = .ok (.bipush 50, 2) := by decide +kernel
theorem dX10_takeLeg_78 : decode cX10_takeLeg 78 = .ok (.invokevirtual 219, 3) := by decide +kernel
theorem dX10_takeLeg_81 : decode cX10_takeLeg 81 = .ok (.istore_n 2, 1) := by decide +kernel
theorem dX10_takeLeg_82 : decode cX10_takeLeg 82 = .ok (.aload_n 0, 1) := by decide +kernel
theorem dX10_takeLeg_83 : decode cX10_takeLeg 83 = .ok (.getfield 27, 3) := by decide +kernel
theorem dX10_takeLeg_86 : decode cX10_takeLeg 86 = .ok (.iconst 2, 1) := by decide +kernel
theorem dX10_takeLeg_87 : decode cX10_takeLeg 87 = .ok (.aload_n 0, 1) := by decide +kernel
theorem dX10_takeLeg_88 : decode cX10_takeLeg 88 = .ok (.getfield 216, 3) := by decide +kernel
theorem dX10_takeLeg_91 : decode cX10_takeLeg 91 = .ok (.imul, 1) := by decide +kernel
theorem dX10_takeLeg_92 : decode cX10_takeLeg 92 = .ok (.iconst 1, 1) := by decide +kernel
theorem dX10_takeLeg_93 : decode cX10_takeLeg 93 = .ok (.iadd, 1) := by decide +kernel
theorem dX10_takeLeg_94 : decode cX10_takeLeg 94 = .ok (.iload_n 1, 1) := by decide +kernel
theorem dX10_takeLeg_95 : decode cX10_takeLeg 95 = .ok (.ifCond .eq 10, 3) := by decide +kernel
theorem dX10_takeLeg_98 : decode cX10_takeLeg 98 = .ok (.bipush (-100), 2) := by decide +kernel
theorem dX10_takeLeg_100 : decode cX10_takeLeg 100 = .ok (.iload_n 2, 1) := by decide +kernel
theorem dX10_takeLeg_101 : decode cX10_takeLeg 101 = .ok (.imul, 1) := by decide +kernel
theorem dX10_takeLeg_102 : decode cX10_takeLeg 102 = .ok (.goto 7, 3) := by decide +kernel
theorem dX10_takeLeg_105 : decode cX10_takeLeg 105 = .ok (.bipush 100, 2) := by decide +kernel
theorem dX10_takeLeg_107 : decode cX10_takeLeg 107 = .ok (.iload_n 2, 1) := by decide +kernel
theorem dX10_takeLeg_108 : decode cX10_takeLeg 108 = .ok (.imul, 1) := by decide +kernel
theorem dX10_takeLeg_109 : decode cX10_takeLeg 109 = .ok (.iastore, 1) := by decide +kernel
theorem dX10_takeLeg_110 : decode cX10_takeLeg 110 = .ok (.aload_n 0, 1) := by decide +kernel
theorem dX10_takeLeg_111 : decode cX10_takeLeg 111 = .ok (.dup, 1) := by decide +kernel
theorem dX10_takeLeg_112 : decode cX10_takeLeg 112 = .ok (.getfield 216, 3) := by decide +kernel
theorem dX10_takeLeg_115 : decode cX10_takeLeg 115 = .ok (.iconst 1, 1) := by decide +kernel
theorem dX10_takeLeg_116 : decode cX10_takeLeg 116 = .ok (.iadd, 1) := by decide +kernel
theorem dX10_takeLeg_117 : decode cX10_takeLeg 117 = .ok (.putfield 216, 3) := by decide +kernel
theorem dX10_takeLeg_120 : decode cX10_takeLeg 120 = .ok (.return_, 1) := by decide +kernel
set_option maxRecDepth 20000 in
theorem ggX10_fault_X10_takeLeg : GoodIn wsX10_fault wsX10_takeLeg := goodIn_r _ [9, 10, 3, 2, 1, 11, 12, 13, 8, 14, 15, 16, 17, 18, 19, 20, 4, 21, 22, 23, 24, 25, 26, 27, 28, 29, 30, 31, 32, 33, 34, 35, 36, 37, 38] (by decide +kernel) (by decide +kernel)
set_option maxRecDepth 20000 in
theorem gX10_fault_X10_takeLeg : GoodIn wsX10_fault (wsV RX10 226 RX10 yX10_takeLeg wsX10_takeLeg) := goodIn_app (goodIn_of _ (by decide +kernel)) ggX10_fault_X10_takeLeg
set_option maxRecDepth 20000 in
theorem ggX10_fault_X10_next : GoodIn wsX10_fault wsX10_next := goodIn_r _ [20, 1, 4, 21, 29, 30, 31, 32, 33, 34, 35, 36, 37, 38] (by decide +kernel) (by decide +kernel)
set_option maxRecDepth 20000 in
theorem gX10_fault_X10_next : GoodIn wsX10_fault (wsV RX10 209 RX10 yX10_next wsX10_next) := goodIn_app (goodIn_of _ (by decide +kernel)) ggX10_fault_X10_next
theorem dX10_fault_0 : decode cX10_fault 0 = .ok (.aload_n 0, 1) := by decide +kernel
theorem dX10_fault_1 : decode cX10_fault 1 = .ok (.iconst 0, 1) := by decide +kernel
theorem dX10_fault_2 : decode cX10_fault 2 = .ok (.putfield 202, 3) := by decide +kernel
theorem dX10_fault_5 : decode cX10_fault 5 = .ok (.aload_n 0, 1) := by decide +kernel
theorem dX10_fault_6 : decode cX10_fault 6 = .ok (.iconst 0, 1) := by decide +kernel
theorem dX10_fault_7 : decode cX10_fault 7 = .ok (.putfield 205, 3) := by decide +kernel
theorem dX10_fault_10 : decode cX10_fault 10 = .ok (.aload_n 0, 1) := by decide +kernel
theorem dX10_fault_11 : decode cX10_fault 11 = .ok (.iconst 0, 1) := by decide +kernel
theorem dX10_fault_12 : decode cX10_fault 12 = .ok (.putfield 216, 3) := by decide +kernel
theorem dX10_fault_15 : decode cX10_fault 15 = .ok (.aload_n 0, 1) := by decide +kernel
theorem dX10_fault_16 : decode cX10_fault 16 = .ok (.invokevirtual 226, 3) := by decide +kernel
theorem dX10_fault_19 : decode cX10_fault 19 = .ok (.aload_n 0, 1) := by decide +kernel
theorem dX10_fault_20 : decode cX10_fault 20 = .ok (.getfield 205, 3) := by decide +kernel
theorem dX10_fault_23 : decode cX10_fault 23 = .ok (.ifCond .ne 29, 3) := by decide +kernel
theorem dX10_fault_26 : decode cX10_fault 26 = .ok (.aload_n 0, 1) := by decide +kernel
theorem dX10_fault_27 : decode cX10_fault 27 = .ok (.invokevirtual 209, 3) := by decide +kernel
theorem dX10_fault_30 : decode cX10_fault 30 = .ok (.bipush 44, 2) := by decide +kernel
theorem dX10_fault_32 : decode cX10_fault 32 = .ok (.if_icmp .ne 20, 3) := by decide +kernel
theorem dX10_fault_35 : decode cX10_fault 35 = .ok (.aload_n 0, 1) := by decide +kernel
theorem dX10_fault_36 : decode cX10_fault 36 = .ok (.dup, 1) := by decide +kernel
theorem dX10_fault_37 : decode cX10_fault 37 = .ok (.getfield 202, 3) := by decide +kernel
theorem dX10_fault_40 : decode cX10_fault 40 = .ok (.iconst 1, 1) := by decide +kernel
theorem dX10_fault_41 : decode cX10_fault 41 = .ok (.iadd, 1) := by decide +kernel
theorem dX10_fault_42 : decode cX10_fault 42 = .ok (.putfield 202, 3) := by decide +kernel
theorem dX10_fault_45 : decode cX10_fault 45 = .ok (.aload_n 0, 1) := by decide +kernel
theorem dX10_fault_46 : decode cX10_fault 46 = .ok (.invokevirtual 226, 3) := by decide +kernel
theorem dX10_fault_49 : decode cX10_fault 49 = .ok (.goto (-30), 3) := by decide +kernel
theorem dX10_fault_52 : decode cX10_fault 52 = .ok (.aload_n 0, 1) := by decide +kernel
theorem dX10_fault_53 : decode cX10_fault 53 = .ok (.getfield 205, 3) := by decide +kernel
theorem dX10_fault_56 : decode cX10_fault 56 = .ok (.ifCond .ne 14, 3) := by decide +kernel
theorem dX10_fault_59 : decode cX10_fault 59 = .ok (.aload_n 0, 1) := by decide +kernel
theorem dX10_fault_60 : decode cX10_fault 60 = .ok (.getfield 202, 3) := by decide +kernel
theorem dX10_fault_63 : decode cX10_fault 63 = .ok (.aload_n 0, 1) := by decide +kernel
theorem dX10_fault_64 : decode cX10_fault 64 = .ok (.getfield 179, 3) := by decide +kernel
theorem dX10_fault_67 : decode cX10_fault 67 = .ok (.if_icmp .ge 10, 3) := by decide +kernel
theorem dX10_fault_70 : decode cX10_fault 70 = .ok (.aload_n 0, 1) := by decide +kernel
theorem dX10_fault_71 : decode cX10_fault 71 = .ok (.getfield 202, 3) := by decide +kernel
theorem dX10_fault_74 : decode cX10_fault 74 = .ok (.goto 5, 3) := by decide +kernel
theorem dX10_fault_77 : decode cX10_fault 77 = .ok (.bipush (-6), 2) := by decide +kernel
theorem dX10_fault_79 : decode cX10_fault 79 = .ok (.ireturn, 1) := by decide +kernel
set_option maxRecDepth 20000 in
theorem ggX10_read_X10_fault : GoodIn wsX10_read wsX10_fault := goodIn_r _ [9, 10, 11, 1, 4, 12, 13, 14, 8, 15, 3, 16, 17, 18, 19, 20, 21, 22, 23, 24, 25, 26, 27, 28, 29, 30, 31, 32, 33, 38, 39, 40, 41, 42, 43, 44, 45, 46, 47] (by decide +kernel) (by decide +kernel)
set_option maxRecDepth 20000 in
theorem gX10_read_X10_fault : GoodIn wsX10_read (wsV RX10 229 RX10 yX10_fault wsX10_fault) := goodIn_app (goodIn_of _ (by decide +kernel)) ggX10_read_X10_fault
set_option maxRecDepth 20000 in
theorem ggX10_read_X10_legs : GoodIn wsX10_read wsX10_legs := goodIn_r _ [37, 2, 38, 39, 40, 41, 42, 43, 44, 45, 46, 47] (by decide +kernel) (by decide +kernel)
set_option maxRecDepth 20000 in
theorem gX10_read_X10_legs : GoodIn wsX10_read (wsV RX10 103 RX10 yX10_legs wsX10_legs) := goodIn_app (goodIn_of _ (by decide +kernel)) ggX10_read_X10_legs
theorem dX10_read_0 : decode cX10_read 0 = .ok (.aload_n 0, 1) := by decide +kernel
theorem dX10_read_1 : decode cX10_read 1 = .ok (.invokevirtual 229, 3) := by decide +kernel
theorem dX10_read_4 : decode cX10_read 4 = .ok (.bipush (-6), 2) := by decide +kernel
theorem dX10_read_6 : decode cX10_read 6 = .ok (.if_icmp .eq 6, 3) := by decide +kernel
theorem dX10_read_9 : decode cX10_read 9 = .ok (.bipush (-3), 2) := by decide +kernel
theorem dX10_read_11 : decode cX10_read 11 = .ok (.ireturn, 1) := by decide +kernel
theorem dX10_read_12 : decode cX10_read 12 = .ok (.aload_n 0, 1) := by decide +kernel
theorem dX10_read_13 : decode cX10_read 13 = .ok (.invokevirtual 103, 3) := by decide +kernel
theorem dX10_read_16 : decode cX10_read 16 = .ok (.aload_n 0, 1) := by decide +kernel
theorem dX10_read_17 : decode cX10_read 17 = .ok (.getfield 216, 3) := by decide +kernel
theorem dX10_read_20 : decode cX10_read 20 = .ok (.iadd, 1) := by decide +kernel
theorem dX10_read_21 : decode cX10_read 21 = .ok (.bipush 12, 2) := by decide +kernel
theorem dX10_read_23 : decode cX10_read 23 = .ok (.if_icmp .le 6, 3) := by decide +kernel
theorem dX10_read_26 : decode cX10_read 26 = .ok (.bipush (-4), 2) := by decide +kernel
theorem dX10_read_28 : decode cX10_read 28 = .ok (.ireturn, 1) := by decide +kernel
theorem dX10_read_29 : decode cX10_read 29 = .ok (.iconst 0, 1) := by decide +kernel
theorem dX10_read_30 : decode cX10_read 30 = .ok (.istore_n 1, 1) := by decide +kernel
theorem dX10_read_31 : decode cX10_read 31 = .ok (.iload_n 1, 1) := by decide +kernel
theorem dX10_read_32 : decode cX10_read 32 = .ok (.aload_n 0, 1) := by decide +kernel
theorem dX10_read_33 : decode cX10_read 33 = .ok (.getfield 216, 3) := by decide +kernel
theorem dX10_read_36 : decode cX10_read 36 = .ok (.if_icmp .ge 70, 3) := by decide +kernel
theorem dX10_read_39 : decode cX10_read 39 = .ok (.aload_n 0, 1) := by decide +kernel
theorem dX10_read_40 : decode cX10_read 40 = .ok (.getfield 7, 3) := by decide +kernel
theorem dX10_read_43 : decode cX10_read 43 = .ok (.bipush 40, 2) := by decide +kernel
theorem dX10_read_45 : decode cX10_read 45 = .ok (.iconst 2, 1) := by decide +kernel
theorem dX10_read_46 : decode cX10_read 46 = .ok (.aload_n 0, 1) := by decide +kernel
theorem dX10_read_47 : decode cX10_read 47 = .ok (.invokevirtual 103, 3) := by decide +kernel
theorem dX10_read_50 : decode cX10_read 50 = .ok (.imul, 1) := by decide +kernel
theorem dX10_read_51 : decode cX10_read 51 = .ok (.iadd, 1) := by decide +kernel
theorem dX10_read_52 : decode cX10_read 52 = .ok (.aload_n 0, 1) := by decide +kernel
theorem dX10_read_53 : decode cX10_read 53 = .ok (.getfield 27, 3) := by decide +kernel
theorem dX10_read_56 : decode cX10_read 56 = .ok (.iconst 2, 1) := by decide +kernel
theorem dX10_read_57 : decode cX10_read 57 = .ok (.iload_n 1, 1) := by decide +kernel
theorem dX10_read_58 : decode cX10_read 58 = .ok (.imul, 1) := by decide +kernel
theorem dX10_read_59 : decode cX10_read 59 = .ok (.iaload, 1) := by decide +kernel
theorem dX10_read_60 : decode cX10_read 60 = .ok (.i2l, 1) := by decide +kernel
theorem dX10_read_61 : decode cX10_read 61 = .ok (.lastore, 1) := by decide +kernel
theorem dX10_read_62 : decode cX10_read 62 = .ok (.aload_n 0, 1) := by decide +kernel
theorem dX10_read_63 : decode cX10_read 63 = .ok (.getfield 7, 3) := by decide +kernel
theorem dX10_read_66 : decode cX10_read 66 = .ok (.bipush 40, 2) := by decide +kernel
theorem dX10_read_68 : decode cX10_read 68 = .ok (.iconst 2, 1) := by decide +kernel
theorem dX10_read_69 : decode cX10_read 69 = .ok (.aload_n 0, 1) := by decide +kernel
theorem dX10_read_70 : decode cX10_read 70 = .ok (.invokevirtual 103, 3) := by decide +kernel
theorem dX10_read_73 : decode cX10_read 73 = .ok (.imul, 1) := by decide +kernel
theorem dX10_read_74 : decode cX10_read 74 = .ok (.iadd, 1) := by decide +kernel
theorem dX10_read_75 : decode cX10_read 75 = .ok (.iconst 1, 1) := by decide +kernel
theorem dX10_read_76 : decode cX10_read 76 = .ok (.iadd, 1) := by decide +kernel
theorem dX10_read_77 : decode cX10_read 77 = .ok (.aload_n 0, 1) := by decide +kernel
theorem dX10_read_78 : decode cX10_read 78 = .ok (.getfield 27, 3) := by decide +kernel
theorem dX10_read_81 : decode cX10_read 81 = .ok (.iconst 2, 1) := by decide +kernel
theorem dX10_read_82 : decode cX10_read 82 = .ok (.iload_n 1, 1) := by decide +kernel
theorem dX10_read_83 : decode cX10_read 83 = .ok (.imul, 1) := by decide +kernel
theorem dX10_read_84 : decode cX10_read 84 = .ok (.iconst 1, 1) := by decide +kernel
theorem dX10_read_85 : decode cX10_read 85 = .ok (.iadd, 1) := by decide +kernel
theorem dX10_read_86 : decode cX10_read 86 = .ok (.iaload, 1) := by decide +kernel
theorem dX10_read_87 : decode cX10_read 87 = .ok (.i2l, 1) := by decide +kernel
theorem dX10_read_88 : decode cX10_read 88 = .ok (.lastore, 1) := by decide +kernel
theorem dX10_read_89 : decode cX10_read 89 = .ok (.aload_n 0, 1) := by decide +kernel
theorem dX10_read_90 : decode cX10_read 90 = .ok (.getfield 7, 3) := by decide +kernel
theorem dX10_read_93 : decode cX10_read 93 = .ok (.bipush 76, 2) := by decide +kernel
theorem dX10_read_95 : decode cX10_read 95 = .ok (.dup2, 1) := by decide +kernel
theorem dX10_read_96 : decode cX10_read 96 = .ok (.laload, 1) := by decide +kernel
theorem dX10_read_97 : decode cX10_read 97 = .ok (.lconst 1, 1) := by decide +kernel
theorem dX10_read_98 : decode cX10_read 98 = .ok (.ladd, 1) := by decide +kernel
theorem dX10_read_99 : decode cX10_read 99 = .ok (.lastore, 1) := by decide +kernel
theorem dX10_read_100 : decode cX10_read 100 = .ok (.iinc 1 1, 3) := by decide +kernel
theorem dX10_read_103 : decode cX10_read 103 = .ok (.goto (-72), 3) := by decide +kernel
theorem dX10_read_106 : decode cX10_read 106 = .ok (.aload_n 0, 1) := by decide +kernel
theorem dX10_read_107 : decode cX10_read 107 = .ok (.iconst 0, 1) := by decide +kernel
theorem dX10_read_108 : decode cX10_read 108 = .ok (.putfield 179, 3) := by decide +kernel
theorem dX10_read_111 : decode cX10_read 111 = .ok (.aload_n 0, 1) := by decide +kernel
theorem dX10_read_112 : decode cX10_read 112 = .ok (.invokevirtual 103, 3) := by decide +kernel
theorem dX10_read_115 : decode cX10_read 115 = .ok (.ireturn, 1) := by decide +kernel
set_option maxRecDepth 20000 in
theorem ggX10_save_X10_in : GoodIn wsX10_save wsX10_in := goodIn_r _ [7] (by decide +kernel) (by decide +kernel)
set_option maxRecDepth 20000 in
theorem gX10_save_X10_in : GoodIn wsX10_save (va_wsS RX10 52 yX10_in wsX10_in) := goodIn_app (goodIn_of _ (by decide +kernel)) ggX10_save_X10_in
theorem dX10_save_0 : decode cX10_save 0 = .ok (.iload_n 1, 1) := by decide +kernel
theorem dX10_save_1 : decode cX10_save 1 = .ok (.i2l, 1) := by decide +kernel
theorem dX10_save_2 : decode cX10_save 2 = .ok (.lconst 0, 1) := by decide +kernel
theorem dX10_save_3 : decode cX10_save 3 = .ok (.lconst 1, 1) := by decide +kernel
theorem dX10_save_4 : decode cX10_save 4 = .ok (.invokestatic 52, 3) := by decide +kernel
theorem dX10_save_7 : decode cX10_save 7 = .ok (.ifCond .ne 6, 3) := by decide +kernel
theorem dX10_save_10 : decode cX10_save 10 = .ok (.bipush (-2), 2) := by decide +kernel
theorem dX10_save_12 : decode cX10_save 12 = .ok (.ireturn, 1) := by decide +kernel
theorem dX10_save_13 : decode cX10_save 13 = .ok (.iconst 0, 1) := by decide +kernel
theorem dX10_save_14 : decode cX10_save 14 = .ok (.istore_n 2, 1) := by decide +kernel
theorem dX10_save_15 : decode cX10_save 15 = .ok (.iload_n 2, 1) := by decide +kernel
theorem dX10_save_16 : decode cX10_save 16 = .ok (.bipush 93, 2) := by decide +kernel
theorem dX10_save_18 : decode cX10_save 18 = .ok (.if_icmp .ge 26, 3) := by decide +kernel
theorem dX10_save_21 : decode cX10_save 21 = .ok (.aload_n 0, 1) := by decide +kernel
theorem dX10_save_22 : decode cX10_save 22 = .ok (.getfield 16, 3) := by decide +kernel
theorem dX10_save_25 : decode cX10_save 25 = .ok (.bipush 93, 2) := by decide +kernel
theorem dX10_save_27 : decode cX10_save 27 = .ok (.iload_n 1, 1) := by decide +kernel
theorem dX10_save_28 : decode cX10_save 28 = .ok (.imul, 1) := by decide +kernel
theorem dX10_save_29 : decode cX10_save 29 = .ok (.iload_n 2, 1) := by decide +kernel
theorem dX10_save_30 : decode cX10_save 30 = .ok (.iadd, 1) := by decide +kernel
theorem dX10_save_31 : decode cX10_save 31 = .ok (.aload_n 0, 1) := by decide +kernel
theorem dX10_save_32 : decode cX10_save 32 = .ok (.getfield 7, 3) := by decide +kernel
theorem dX10_save_35 : decode cX10_save 35 = .ok (.iload_n 2, 1) := by decide +kernel
theorem dX10_save_36 : decode cX10_save 36 = .ok (.laload, 1) := by decide +kernel
theorem dX10_save_37 : decode cX10_save 37 = .ok (.lastore, 1) := by decide +kernel
theorem dX10_save_38 : decode cX10_save 38 = .ok (.iinc 2 1, 3) := by decide +kernel
theorem dX10_save_41 : decode cX10_save 41 = .ok (.goto (-26), 3) := by decide +kernel
theorem dX10_save_44 : decode cX10_save 44 = .ok (.aload_n 0, 1) := by decide +kernel
theorem dX10_save_45 : decode cX10_save 45 = .ok (.getfield 19, 3) := by decide +kernel
theorem dX10_save_48 : decode cX10_save 48 = .ok (.iload_n 1, 1) := by decide +kernel
theorem dX10_save_49 : decode cX10_save 49 = .ok (.iconst 1, 1) := by decide +kernel
theorem dX10_save_50 : decode cX10_save 50 = .ok (.bastore, 1) := by decide +kernel
theorem dX10_save_51 : decode cX10_save 51 = .ok (.aload_n 0, 1) := by decide +kernel
theorem dX10_save_52 : decode cX10_save 52 = .ok (.getfield 7, 3) := by decide +kernel
theorem dX10_save_55 : decode cX10_save 55 = .ok (.bipush 77, 2) := by decide +kernel
theorem dX10_save_57 : decode cX10_save 57 = .ok (.laload, 1) := by decide +kernel
theorem dX10_save_58 : decode cX10_save 58 = .ok (.l2i, 1) := by decide +kernel
theorem dX10_save_59 : decode cX10_save 59 = .ok (.ireturn, 1) := by decide +kernel
set_option maxRecDepth 20000 in
theorem ggX10_restore_X10_in : GoodIn wsX10_restore wsX10_in := goodIn_r _ [7] (by decide +kernel) (by decide +kernel)
set_option maxRecDepth 20000 in
theorem gX10_restore_X10_in : GoodIn wsX10_restore (va_wsS RX10 52 yX10_in wsX10_in) := goodIn_app (goodIn_of _ (by decide +kernel)) ggX10_restore_X10_in
theorem dX10_restore_0 : decode cX10_restore 0 = .ok (.iload_n 1, 1) := by decide +kernel
theorem dX10_restore_1 : decode cX10_restore 1 = .ok (.i2l, 1) := by decide +kernel
theorem dX10_restore_2 : decode cX10_restore 2 = .ok (.lconst 0, 1) := by decide +kernel
theorem dX10_restore_3 : decode cX10_restore 3 = .ok (.lconst 1, 1) := by decide +kernel
theorem dX10_restore_4 : decode cX10_restore 4 = .ok (.invokestatic 52, 3) := by decide +kernel
theorem dX10_restore_7 : decode cX10_restore 7 = .ok (.ifCond .ne 6, 3) := by decide +kernel
theorem dX10_restore_10 : decode cX10_restore 10 = .ok (.bipush (-2), 2) := by decide +kernel
theorem dX10_restore_12 : decode cX10_restore 12 = .ok (.ireturn, 1) := by decide +kernel
theorem dX10_restore_13 : decode cX10_restore 13 = .ok (.aload_n 0, 1) := by decide +kernel
theorem dX10_restore_14 : decode cX10_restore 14 = .ok (.getfield 19, 3) := by decide +kernel
theorem dX10_restore_17 : decode cX10_restore 17 = .ok (.iload_n 1, 1) := by decide +kernel
theorem dX10_restore_18 : decode cX10_restore 18 = .ok (.baload, 1) := by decide +kernel
theorem dX10_restore_19 : decode cX10_restore 19 = .ok (.ifCond .ne 6, 3) := by decide +kernel
theorem dX10_restore_22 : decode cX10_restore 22 = .ok (.bipush (-5), 2) := by decide +kernel
theorem dX10_restore_24 : decode cX10_restore 24 = .ok (.ireturn, 1) := by decide +kernel
theorem dX10_restore_25 : decode cX10_restore 25 = .ok (.iconst 0, 1) := by decide +kernel
theorem dX10_restore_26 : decode cX10_restore 26 = .ok (.istore_n 2, 1) := by decide +kernel
theorem dX10_restore_27 : decode cX10_restore 27 = .ok (.iload_n 2, 1) := by decide +kernel
theorem dX10_restore_28 : decode cX10_restore 28 = .ok (.bipush 93, 2) := by decide +kernel
theorem dX10_restore_30 : decode cX10_restore 30 = .ok (.if_icmp .ge 26, 3) := by decide +kernel
theorem dX10_restore_33 : decode cX10_restore 33 = .ok (.aload_n 0, 1) := by decide +kernel
theorem dX10_restore_34 : decode cX10_restore 34 = .ok (.getfield 7, 3) := by decide +kernel
theorem dX10_restore_37 : decode cX10_restore 37 = .ok (.iload_n 2, 1) := by decide +kernel
theorem dX10_restore_38 : decode cX10_restore 38 = .ok (.aload_n 0, 1) := by decide +kernel
theorem dX10_restore_39 : decode cX10_restore 39 = .ok (.getfield 16, 3) := by decide +kernel
theorem dX10_restore_42 : decode cX10_restore 42 = .ok (.bipush 93, 2) := by decide +kernel
theorem dX10_restore_44 : decode cX10_restore 44 = .ok (.iload_n 1, 1) := by decide +kernel
theorem dX10_restore_45 : decode cX10_restore 45 = .ok (.imul, 1) := by decide +kernel
theorem dX10_restore_46 : decode cX10_restore 46 = .ok (.iload_n 2, 1) := by decide +kernel
theorem dX10_restore_47 : decode cX10_restore 47 = .ok (.iadd, 1) := by decide +kernel
theorem dX10_restore_48 : decode cX10_restore 48 = .ok (.laload, 1) := by decide +kernel
theorem dX10_restore_49 : decode cX10_restore 49 = .ok (.lastore, 1) := by decide +kernel
theorem dX10_restore_50 : decode cX10_restore 50 = .ok (.iinc 2 1, 3) := by decide +kernel
theorem dX10_restore_53 : decode cX10_restore 53 = .ok (.goto (-26), 3) := by decide +kernel
theorem dX10_restore_56 : decode cX10_restore 56 = .ok (.aload_n 0, 1) := by decide +kernel
theorem dX10_restore_57 : decode cX10_restore 57 = .ok (.getfield 7, 3) := by decide +kernel
theorem dX10_restore_60 : decode cX10_restore 60 = .ok (.bipush 77, 2) := by decide +kernel
theorem dX10_restore_62 : decode cX10_restore 62 = .ok (.laload, 1) := by decide +kernel
theorem dX10_restore_63 : decode cX10_restore 63 = .ok (.l2i, 1) := by decide +kernel
theorem dX10_restore_64 : decode cX10_restore 64 = .ok (.ireturn, 1) := by decide +kernel
theorem dJ9_max_7cf53_0 : decode cJ9_max_7cf53 0 = .ok (.iload_n 0, 1) := by decide +kernel
theorem dJ9_max_7cf53_1 : decode cJ9_max_7cf53 1 = .ok (.iload_n 1, 1) := by decide +kernel
theorem dJ9_max_7cf53_2 : decode cJ9_max_7cf53 2 = .ok (.if_icmp .lt 7, 3) := by decide +kernel
theorem dJ9_max_7cf53_5 : decode cJ9_max_7cf53 5 = .ok (.iload_n 0, 1) := by decide +kernel
theorem dJ9_max_7cf53_6 : decode cJ9_max_7cf53 6 = .ok (.goto 4, 3) := by decide +kernel
theorem dJ9_max_7cf53_9 : decode cJ9_max_7cf53 9 = .ok (.iload_n 1, 1) := by decide +kernel
theorem dJ9_max_7cf53_10 : decode cJ9_max_7cf53 10 = .ok (.ireturn, 1) := by decide +kernel
theorem dJ9_max_f86c9_0 : decode cJ9_max_f86c9 0 = .ok (.lload_n 0, 1) := by decide +kernel
theorem dJ9_max_f86c9_1 : decode cJ9_max_f86c9 1 = .ok (.lload_n 2, 1) := by decide +kernel
theorem dJ9_max_f86c9_2 : decode cJ9_max_f86c9 2 = .ok (.lcmp, 1) := by decide +kernel
theorem dJ9_max_f86c9_3 : decode cJ9_max_f86c9 3 = .ok (.ifCond .lt 7, 3) := by decide +kernel
theorem dJ9_max_f86c9_6 : decode cJ9_max_f86c9 6 = .ok (.lload_n 0, 1) := by decide +kernel
theorem dJ9_max_f86c9_7 : decode cJ9_max_f86c9 7 = .ok (.goto 4, 3) := by decide +kernel
theorem dJ9_max_f86c9_10 : decode cJ9_max_f86c9 10 = .ok (.lload_n 2, 1) := by decide +kernel
theorem dJ9_max_f86c9_11 : decode cJ9_max_f86c9 11 = .ok (.lreturn, 1) := by decide +kernel
theorem dJ9_min_7cf53_0 : decode cJ9_min_7cf53 0 = .ok (.iload_n 0, 1) := by decide +kernel
theorem dJ9_min_7cf53_1 : decode cJ9_min_7cf53 1 = .ok (.iload_n 1, 1) := by decide +kernel
theorem dJ9_min_7cf53_2 : decode cJ9_min_7cf53 2 = .ok (.if_icmp .gt 7, 3) := by decide +kernel
theorem dJ9_min_7cf53_5 : decode cJ9_min_7cf53 5 = .ok (.iload_n 0, 1) := by decide +kernel
theorem dJ9_min_7cf53_6 : decode cJ9_min_7cf53 6 = .ok (.goto 4, 3) := by decide +kernel
theorem dJ9_min_7cf53_9 : decode cJ9_min_7cf53 9 = .ok (.iload_n 1, 1) := by decide +kernel
theorem dJ9_min_7cf53_10 : decode cJ9_min_7cf53 10 = .ok (.ireturn, 1) := by decide +kernel
theorem dJ9_min_f86c9_0 : decode cJ9_min_f86c9 0 = .ok (.lload_n 0, 1) := by decide +kernel
theorem dJ9_min_f86c9_1 : decode cJ9_min_f86c9 1 = .ok (.lload_n 2, 1) := by decide +kernel
theorem dJ9_min_f86c9_2 : decode cJ9_min_f86c9 2 = .ok (.lcmp, 1) := by decide +kernel
theorem dJ9_min_f86c9_3 : decode cJ9_min_f86c9 3 = .ok (.ifCond .gt 7, 3) := by decide +kernel
theorem dJ9_min_f86c9_6 : decode cJ9_min_f86c9 6 = .ok (.lload_n 0, 1) := by decide +kernel
theorem dJ9_min_f86c9_7 : decode cJ9_min_f86c9 7 = .ok (.goto 4, 3) := by decide +kernel
theorem dJ9_min_f86c9_10 : decode cJ9_min_f86c9 10 = .ok (.lload_n 2, 1) := by decide +kernel
theorem dJ9_min_f86c9_11 : decode cJ9_min_f86c9 11 = .ok (.lreturn, 1) := by decide +kernel
